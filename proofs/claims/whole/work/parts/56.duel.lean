/-! ===== duels (by program, wip/whole/p56.py) ===== -/
def cdV (s : Int32) : Nat → Int32 := fun j => if j = 0 then 2 else if j = 5 then s else 0
def dV (x y : Nat) : Vw := fun k b => if b < 2 then (match k with
  | 0 => nI b
  | 1 => 9
  | 2 => 0
  | 3 => 2
  | 4 => 5
  | 5 => if b = 0 then nI x else nI y
  | _ => 0) else 0
noncomputable def duelV (R : RF) (s : Int32) (x y : Nat) : Int32 := score 2 (cdV s) 0 (gunA 2 (cdV s) R (dV x y) 0) 0 - score 2 (cdV s) 0 (gunA 2 (cdV s) R (dV x y) 0) 1
theorem cdV_l {s : Int32} (h : 1 ≤ s.toInt ∧ s.toInt ≤ 60) : lineOk (cdV s) := by
  have z : (0 : Int32).toInt = 0 := rfl
  have t : (2 : Int32).toInt = 2 := rfl
  have c0 : cdV s 0 = 2 := rfl
  have c1 : cdV s 1 = 0 := rfl
  have c2 : cdV s 2 = 0 := rfl
  have c3 : cdV s 3 = 0 := rfl
  have c4 : cdV s 4 = 0 := rfl
  have c5 : cdV s 5 = s := rfl
  have c6 : cdV s 6 = 0 := rfl
  unfold lineOk
  rw [c0, c1, c2, c3, c4, c5, c6, z, t]
  omega
theorem dV_ok {s : Int32} {x y : Nat} (h : 1 ≤ s.toInt ∧ s.toInt ≤ 60) : FOk 19 2 (cdV s) (dV x y) 0 := by
  have z : (0 : Int32).toInt = 0 := rfl
  have t : (2 : Int32).toInt = 2 := rfl
  have n9 : (9 : Int32).toInt = 9 := rfl
  have n5 : (5 : Int32).toInt = 5 := rfl
  have c0 : cdV s 0 = 2 := rfl
  have c5 : cdV s 5 = s := rfl
  refine ⟨cdV_l h, by rw [c5, z]; omega, fun b hb => ?_⟩
  have d0 : dV x y 0 b = nI b := by unfold dV; rw [if_pos hb]; rfl
  have d1 : dV x y 1 b = 9 := by unfold dV; rw [if_pos hb]; rfl
  have d2 : dV x y 2 b = 0 := by unfold dV; rw [if_pos hb]; rfl
  have d3 : dV x y 3 b = 2 := by unfold dV; rw [if_pos hb]; rfl
  have d4 : dV x y 4 b = 5 := by unfold dV; rw [if_pos hb]; rfl
  unfold bOk
  rw [d0, d1, d2, d3, d4, c0, z, t, n9, n5, jn_toInt (by omega)]
  omega
theorem lv7_cd {g : Nat → Int32} {s : Int32} (h : ∀ j, j < 7 → g j = cdV s j) : lv7 g = cdV s := by
  funext j
  by_cases q : j < 7
  · rw [lv7_at q]; exact h j q
  · have e : lv7 g j = 0 := by simp [lv7, q]
    rw [e]
    unfold cdV
    rw [if_neg (by omega), if_neg (by omega)]
def csX1_setForDuel : List (Nat × Nat × Nat × mj_PT) := []
theorem csX1_setForDuel_ok : mj_Cs mX1_setForDuel 1 csX1_setForDuel := mj_Cs0
def cutX1_setForDuel : List (Nat × List Bool) := [(2, [true, true, true])]
set_option maxRecDepth 100000 in
set_option maxHeartbeats 4000000 in
theorem inX1_setForDuel {Ω : mj_Om} {l : Launch} {d : Nat} {Φ : Option Value → mj_M → Prop} (hd : 1 ≤ d) (y : Int32) (I : Nat → Nat → Int32) (J : Nat → Nat → Int64)
    (h : ((mj_G Ω l false mX1_setForDuel d 0 0 Φ 0 0 2 ([some (.ref 28), some (.int y), some (.int (0 : Int32))], [], (mk I J))))) :
    mj_Met Ω l false mX1_setForDuel d 0 0 [.ref 28, .int y] (mk I J) Φ := mj_entry (by decide) rfl (fun h => (by cases h)) (Nat.le_of_ble_eq_true rfl) (mj_blk (μ := mX1_setForDuel) (P := pX1_setForDuel) (cut := cutX1_setForDuel) (cs := csX1_setForDuel) dX1_setForDuel csX1_setForDuel_ok hd 24 0 _ h)
set_option maxRecDepth 100000 in
set_option maxHeartbeats 4000000 in
theorem bX1_setForDuel_2 {Ω : mj_Om} {l : Launch} {d : Nat} {Φ : Option Value → mj_M → Prop} (hd : 1 ≤ d) (x1 : Int32) (x2 : Int32) (I : Nat → Nat → Int32) (J : Nat → Nat → Int64)
    (h : ((if x2 < (7 : Int32) then (mj_gd (mj_inB x2 7) (mj_G Ω l false mX1_setForDuel d 0 0 Φ 0 0 2 ([some (.ref 28), some (.int x1), some (.int (x2 + (1 : Int32)))], [], (mk (mj_ui I 29 (x2).toNatClampNeg (0 : Int32)) J)))) else (Φ none (mk (mj_ui (mj_ui I 29 0 (2 : Int32)) 29 5 x1) J))))) :
    mj_G Ω l false mX1_setForDuel d 0 0 Φ 0 0 2 ([some (.ref 28), some (.int x1), some (.int x2)], [], mk I J) := mj_blk (μ := mX1_setForDuel) (P := pX1_setForDuel) (cut := cutX1_setForDuel) (cs := csX1_setForDuel) dX1_setForDuel csX1_setForDuel_ok hd 24 2 _ h
def tX1_setForDuel : mj_PT := fun as M Φ => match as with
  | [.ref this, .int y] => ((this = 28 ∧ mj_isk M) ∧ (∀ I1 : Nat → Nat → Int32, ((∀ j, j < 7 → I1 29 j = cdV y j) ∧ fr (fun c _ => c = 29) M.2.2.1 I1) → Φ none (M.1, M.2.1, I1, M.2.2.2)))
  | _ => False
theorem mnX1_setForDuel {Ω : mj_Om} {l : Launch} {d : Nat} {Φ : Option Value → mj_M → Prop} (hd : 1 ≤ d) (y : Int32) (I : Nat → Nat → Int32) (J : Nat → Nat → Int64) (h : ∀ I1 : Nat → Nat → Int32, ((∀ j, j < 7 → I1 29 j = cdV y j) ∧ fr (fun c _ => c = 29) I I1) → Φ none (mk I1 J)) : mj_Met Ω l false mX1_setForDuel d 0 0 [.ref 28, .int y] (mk I J) Φ := by
  refine inX1_setForDuel hd y I J ?_
  refine lp_inv (σ := Nat → Nat → Int32) (n := 7) (G := fun i A => mj_G Ω l false mX1_setForDuel d 0 0 Φ 0 0 2 ([some (.ref 28), some (.int y), some (.int (nI i))], [], mk A J)) (fun i A => (∀ j, j < i → A 29 j = 0) ∧ fr (fun c _ => c = 29) I A) (fun i A hi hI hk => ?_) (fun A hI => ?_) 7 0 I (by omega) ⟨fun j hj => absurd hj (Nat.not_lt_zero j), fr_rf⟩
  · refine bX1_setForDuel_2 hd y (nI i) A J ?_
    rw [if_pos (show nI i < (7 : Int32) by rw [show (7 : Int32) = nI 7 from rfl, jn_lt (by omega) (by omega)]; exact hi)]
    simp (disch := omega) only [jn_in, jn_cl, gd_dec, jn_succ]
    refine hk _ ⟨fun j hj => ?_, fr_ui hI.2 rfl⟩
    by_cases z : j = i
    · rw [z, ui_s]
    · rw [ui_k z]; exact hI.1 j (by omega)
  · refine bX1_setForDuel_2 hd y (nI 7) A J ?_
    rw [if_neg (by decide)]
    refine h _ ⟨fun j hj => ?_, fr_ui (fr_ui hI.2 rfl) rfl⟩
    unfold cdV
    by_cases z5 : j = 5
    · rw [z5, ui_s]; rfl
    · rw [ui_k z5]
      by_cases z0 : j = 0
      · rw [z0, ui_s]; rfl
      · rw [ui_k z0, if_neg z0, if_neg z5]; exact hI.1 j hj
theorem sdX1_setForDuel : mj_Sd mX1_setForDuel 1 tX1_setForDuel := by
  intro Ω l d hd as M Φ h
  unfold tX1_setForDuel at h
  split at h
  · rename_i z_this y
    obtain ⟨⟨rfl, hM⟩, h⟩ := h
    rw [mj_isk_of hM]
    exact mnX1_setForDuel hd y _ _ (by
      rw [mj_isk_of hM] at h
      exact h)
  · exact h.elim
def csX3_setForDuelS : List (Nat × Nat × Nat × mj_PT) := [(43, 0, 1, mj_rcv 3 tX3_empty), (46, 0, 3, mj_rcv 3 tX3_joinDuel)]
theorem csX3_setForDuelS_ok : mj_Cs mX3_setForDuel 2 csX3_setForDuelS := (mj_CsV (D' := 1) (ci := 3) (q := (RX3, TX3, 10)) sdX3_empty (Nat.le_of_ble_eq_true rfl) fX3_empty rfl rfl iX3_empty vX3_empty (by decide +kernel) l3_43 (mj_CsV (D' := 1) (ci := 3) (q := (RX3, TX3, 10)) sdX3_joinDuel (Nat.le_of_ble_eq_true rfl) fX3_joinDuel rfl rfl iX3_joinDuel vX3_joinDuel (by decide +kernel) l3_46 mj_Cs0))
def cutX3_setForDuelS : List (Nat × List Bool) := []
set_option maxRecDepth 100000 in
set_option maxHeartbeats 4000000 in
theorem inX3_setForDuelS {Ω : mj_Om} {l : Launch} {d : Nat} {Φ : Option Value → mj_M → Prop} (hd : 2 ≤ d) (x_ : Int32) (y_ : Int32) (I : Nat → Nat → Int32) (J : Nat → Nat → Int64)
    (h : ((Φ none (mk (mj_ui (mj_ui (mj_ui (mj_ui (mj_ui (mj_ui (mj_ui (mj_ui (mj_ui (mj_ui (mj_ui (mj_ui (mj_ui (mj_ui (mj_ui (mj_ui (mj_ui (mj_ui (mj_ui (mj_ui I 48 8 (0 : Int32)) 48 9 (0 : Int32)) 49 0 (0 : Int32)) 50 0 (9 : Int32)) 51 0 (0 : Int32)) 52 0 (2 : Int32)) 53 0 (5 : Int32)) 54 0 x_) 55 0 (0 : Int32)) 56 0 (0 : Int32)) 48 8 (1 : Int32)) 49 1 (1 : Int32)) 50 1 (9 : Int32)) 51 1 (0 : Int32)) 52 1 (2 : Int32)) 53 1 (5 : Int32)) 54 1 y_) 55 1 (0 : Int32)) 56 1 (0 : Int32)) 48 8 (2 : Int32)) J)))) :
    mj_Met Ω l false mX3_setForDuel d 0 0 [.ref 48, .int x_, .int y_] (mk I J) Φ := mj_entry (by decide) rfl (fun h => (by cases h)) (Nat.le_of_ble_eq_true rfl) (mj_blk (μ := mX3_setForDuel) (P := pX3_setForDuel) (cut := cutX3_setForDuelS) (cs := csX3_setForDuelS) dX3_setForDuel csX3_setForDuelS_ok hd 12 0 _ h)
def tX3_setForDuelS : mj_PT := fun as M Φ => match as with
  | [.ref this, .int x_, .int y_] => ((this = 48 ∧ mj_isk M) ∧ (∃ x : Nat, x_ = nI x ∧ (∃ y : Nat, y_ = nI y ∧ (∀ I1 : Nat → Nat → Int32, (okF I1 48 ∧ nF I1 48 = 2 ∧ VF I1 48 = dV x y ∧ I1 48 9 = 0 ∧ fr (fun c _ => 48 ≤ c ∧ c ≤ 56) M.2.2.1 I1) → Φ none (M.1, M.2.1, I1, M.2.2.2)))))
  | _ => False
set_option maxHeartbeats 4000000 in
theorem mnX3_setForDuelS {Ω : mj_Om} {l : Launch} {d : Nat} {Φ : Option Value → mj_M → Prop} (hd : 2 ≤ d) (x : Nat) (y : Nat) (I : Nat → Nat → Int32) (J : Nat → Nat → Int64) (h : ∀ I1 : Nat → Nat → Int32, (okF I1 48 ∧ nF I1 48 = 2 ∧ VF I1 48 = dV x y ∧ I1 48 9 = 0 ∧ fr (fun c _ => 48 ≤ c ∧ c ≤ 56) I I1) → Φ none (mk I1 J)) : mj_Met Ω l false mX3_setForDuel d 0 0 [.ref 48, .int (nI x), .int (nI y)] (mk I J) Φ := by
  refine inX3_setForDuelS hd (nI x) (nI y) I J ?_
  have e8 : ∀ A : Nat → Nat → Int32, (mj_ui A 48 8 2) 48 8 = nI 2 := fun A => ui_s
  refine h _ ⟨?_, ?_, ?_, ?_, ?_⟩
  · unfold okF nF; rw [e8]; decide
  · unfold nF; rw [e8]; decide
  · funext k b
    unfold VF vF nF dV
    rw [e8, show (nI 2).toNatClampNeg = 2 by decide]
    by_cases hb : b < 2
    · rw [if_pos hb, if_pos hb]
      have c : b = 0 ∨ b = 1 := by omega
      match k with
      | 0 => rcases c with rfl | rfl <;> (simp [mj_ui]; try rfl)
      | 1 => rcases c with rfl | rfl <;> (simp [mj_ui]; try rfl)
      | 2 => rcases c with rfl | rfl <;> (simp [mj_ui]; try rfl)
      | 3 => rcases c with rfl | rfl <;> (simp [mj_ui]; try rfl)
      | 4 => rcases c with rfl | rfl <;> (simp [mj_ui]; try rfl)
      | 5 => rcases c with rfl | rfl <;> (simp [mj_ui]; try rfl)
      | 6 => rcases c with rfl | rfl <;> (simp [mj_ui]; try rfl)
      | 7 => rcases c with rfl | rfl <;> (simp [mj_ui]; try rfl)
      | k + 8 => rw [if_neg (by omega)]; rfl
    · rw [if_neg hb, if_neg hb]
  · simp [mj_ui]
  · intro c k w
    try dsimp only at w
    simp only [mj_ui]
    rw [if_neg (by omega), if_neg (by omega), if_neg (by omega), if_neg (by omega), if_neg (by omega), if_neg (by omega), if_neg (by omega), if_neg (by omega), if_neg (by omega), if_neg (by omega), if_neg (by omega), if_neg (by omega), if_neg (by omega), if_neg (by omega), if_neg (by omega), if_neg (by omega), if_neg (by omega), if_neg (by omega), if_neg (by omega), if_neg (by omega)]
theorem sdX3_setForDuelS : mj_Sd mX3_setForDuel 2 tX3_setForDuelS := by
  intro Ω l d hd as M Φ h
  unfold tX3_setForDuelS at h
  split at h
  · rename_i z_this x_ y_
    obtain ⟨⟨rfl, hM⟩, x, rfl, y, rfl, h⟩ := h
    rw [mj_isk_of hM]
    exact mnX3_setForDuelS hd x y _ _ (by
      rw [mj_isk_of hM] at h
      exact h)
  · exact h.elim
def csX11_duelOf : List (Nat × Nat × Nat × mj_PT) := [(195, 0, 3, mj_rcv 1 tX1_scoreOf), (251, 0, 3, mj_rcv 4 tX4_passToGun), (306, 0, 2, mj_rcv 1 tX1_setForDuel), (309, 0, 3, mj_rcv 3 tX3_setForDuelS)]
theorem csX11_duelOf_ok : mj_Cs mX11_duelOf 6 csX11_duelOf := (mj_CsV (D' := 3) (ci := 1) (q := (RX1, TX1, 1)) sdX1_scoreOf (Nat.le_of_ble_eq_true rfl) fX1_scoreOf rfl rfl iX1_scoreOf vX1_scoreOf (by decide +kernel) l11_195 (mj_CsV (D' := 5) (ci := 4) (q := (RX4, TX4, 4)) sdX4_passToGun (Nat.le_of_ble_eq_true rfl) fX4_passToGun rfl rfl iX4_passToGun vX4_passToGun (by decide +kernel) l11_251 (mj_CsV (D' := 1) (ci := 1) (q := (RX1, TX1, 1)) sdX1_setForDuel (Nat.le_of_ble_eq_true rfl) fX1_setForDuel rfl rfl iX1_setForDuel vX1_setForDuel (by decide +kernel) l11_306 (mj_CsV (D' := 2) (ci := 3) (q := (RX3, TX3, 10)) sdX3_setForDuelS (Nat.le_of_ble_eq_true rfl) fX3_setForDuel rfl rfl iX3_setForDuel vX3_setForDuel (by decide +kernel) l11_309 mj_Cs0))))
def cutX11_duelOf : List (Nat × List Bool) := [(25, [true, true, true]), (40, [true, true, true])]
set_option maxRecDepth 100000 in
set_option maxHeartbeats 4000000 in
theorem inX11_duelOf {Ω : mj_Om} {l : Launch} {d : Nat} {Φ : Option Value → mj_M → Prop} (hd : 6 ≤ d) (x_ : Int32) (y_ : Int32) (I : Nat → Nat → Int32) (J : Nat → Nat → Int64)
    (h : (((28 = 28 ∧ mj_isk (mk I J)) ∧ (∀ I718 : Nat → Nat → Int32, ((∀ j, j < 7 → I718 29 j = cdV (I 27 5) j) ∧ fr (fun c _ => c = 29) I I718) → ((48 = 48 ∧ mj_isk (mk I718 J)) ∧ (∃ x720 : Nat, x_ = nI x720 ∧ (∃ y721 : Nat, y_ = nI y721 ∧ (∀ I722 : Nat → Nat → Int32, (okF I722 48 ∧ nF I722 48 = 2 ∧ VF I722 48 = dV x720 y721 ∧ I722 48 9 = 0 ∧ fr (fun c _ => 48 ≤ c ∧ c ≤ 56) I718 I722) → (mj_G Ω l false mX11_duelOf d 0 0 Φ 0 0 25 ([some (.ref 0), some (.int x_), some (.int y_)], [], (mk I722 J))))))))))) :
    mj_Met Ω l false mX11_duelOf d 0 0 [.ref 0, .int x_, .int y_] (mk I J) Φ := mj_entry (by decide) rfl (fun h => (by cases h)) (Nat.le_of_ble_eq_true rfl) (mj_blk (μ := mX11_duelOf) (P := pX11_duelOf) (cut := cutX11_duelOf) (cs := csX11_duelOf) dX11_duelOf csX11_duelOf_ok hd 35 0 _ h)
set_option maxRecDepth 100000 in
set_option maxHeartbeats 4000000 in
theorem bX11_duelOf_25 {Ω : mj_Om} {l : Launch} {d : Nat} {Φ : Option Value → mj_M → Prop} (hd : 6 ≤ d) (x1 : Int32) (x2 : Int32) (I : Nat → Nat → Int32) (J : Nat → Nat → Int64)
    (h : (((75 = 75 ∧ isCF 28 48 ∧ mj_isk (mk I J)) ∧ (∃ u724 : Int, (∃ m725 : Nat, (∃ R726 : RF, ((u724 ≤ 1000 ∧ FC u724 I 28 48 ∧ RuC I m725 R726) ∧ (∀ I727 : Nat → Nat → Int32, (VF I727 48 = gunV (nF I 48) (lv7 (I (28 + 1))) R726 ((lv7 (I (28 + 1))) 5 - (I 48 9)).toNatClampNeg (VF I 48) (I 48 9) ∧ I727 48 9 = (lv7 (I (28 + 1))) 5 ∧ fr (fun c k => (48 + 1 ≤ c ∧ c ≤ 48 + 8) ∨ (c = 48 ∧ k = 9) ∨ c = 10 ∨ (76 ≤ c ∧ c ≤ 78)) I I727) → (mj_G Ω l false mX11_duelOf d 0 0 Φ 0 0 40 ([some (.ref 0), some (.int x1), some (.int x2)], [], (mk I727 J))))))))))) :
    mj_G Ω l false mX11_duelOf d 0 0 Φ 0 0 25 ([some (.ref 0), some (.int x1), some (.int x2)], [], mk I J) := mj_blk (μ := mX11_duelOf) (P := pX11_duelOf) (cut := cutX11_duelOf) (cs := csX11_duelOf) dX11_duelOf csX11_duelOf_ok hd 35 25 _ h
set_option maxRecDepth 100000 in
set_option maxHeartbeats 4000000 in
theorem bX11_duelOf_40 {Ω : mj_Om} {l : Launch} {d : Nat} {Φ : Option Value → mj_M → Prop} (hd : 6 ≤ d) (x1 : Int32) (x2 : Int32) (I : Nat → Nat → Int32) (J : Nat → Nat → Int64)
    (h : (((isCF 28 48 ∧ mj_isk (mk I J)) ∧ ((okF I 48 ∧ isB (nF I 48) (0 : Int32) ∧ lineOk (lv7 (I (28 + 1)))) ∧ ((isCF 28 48 ∧ mj_isk (mk I J)) ∧ ((okF I 48 ∧ isB (nF I 48) (1 : Int32) ∧ lineOk (lv7 (I (28 + 1)))) ∧ (Φ (some (.int ((score (nF I 48) (lv7 (I (28 + 1))) (I (28 + 1) 6) (VF I 48) ((0 : Int32)).toNatClampNeg) - (score (nF I 48) (lv7 (I (28 + 1))) (I (28 + 1) 6) (VF I 48) ((1 : Int32)).toNatClampNeg)))) (mk I J)))))))) :
    mj_G Ω l false mX11_duelOf d 0 0 Φ 0 0 40 ([some (.ref 0), some (.int x1), some (.int x2)], [], mk I J) := mj_blk (μ := mX11_duelOf) (P := pX11_duelOf) (cut := cutX11_duelOf) (cs := csX11_duelOf) dX11_duelOf csX11_duelOf_ok hd 35 40 _ h
def tX11_duelOf : mj_PT := fun as M Φ => match as with
  | [.ref this, .int x_, .int y_] => ((this = 0 ∧ mj_isk M) ∧ (∃ x : Nat, x_ = nI x ∧ (∃ y : Nat, y_ = nI y ∧ (∃ m : Nat, (∃ R : RF, ((RuC M.2.2.1 m R ∧ lineOk (lv7 (M.2.2.1 27))) ∧ (∀ I1 : Nat → Nat → Int32, (fr Scr M.2.2.1 I1) → Φ (some (.int (duelV R (lv7 (M.2.2.1 27) 5) x y))) (M.1, M.2.1, I1, M.2.2.2))))))))
  | _ => False
set_option maxHeartbeats 4000000 in
theorem mnX11_duelOf {Ω : mj_Om} {l : Launch} {d : Nat} {Φ : Option Value → mj_M → Prop} (hd : 6 ≤ d) (x : Nat) (y : Nat) (m : Nat) (R : RF) (I : Nat → Nat → Int32) (J : Nat → Nat → Int64) (hp : RuC I m R ∧ lineOk (lv7 (I 27))) (h : ∀ I1 : Nat → Nat → Int32, (fr Scr I I1) → Φ (some (.int (duelV R (lv7 (I 27) 5) x y))) (mk I1 J)) : mj_Met Ω l false mX11_duelOf d 0 0 [.ref 0, .int (nI x), .int (nI y)] (mk I J) Φ := by
  refine inX11_duelOf hd (nI x) (nI y) I J ?_
  obtain ⟨hR, hl⟩ := hp
  have l5 := hl.2.2.2.2.2.1
  have e5 : I 27 5 = lv7 (I 27) 5 := (lv7_at (by decide)).symm
  rw [e5]
  refine ⟨⟨by trivial, mj_isk_mk _ _⟩, fun A hA => ?_⟩
  refine ⟨⟨by trivial, mj_isk_mk _ _⟩, x, rfl, y, rfl, fun B hB => ?_⟩
  obtain ⟨b1, b2, b3, b4, b5⟩ := hB
  refine bX11_duelOf_25 hd (nI x) (nI y) B J ?_
  have CB : lv7 (B (28 + 1)) = cdV (lv7 (I 27) 5) := lv7_cd (fun j hj => by rw [b5 29 j (by (try dsimp only); omega)]; exact hA.1 j hj)
  have hFd := dV_ok (x := x) (y := y) l5
  refine ⟨⟨by trivial, by unfold isCF; omega, mj_isk_mk _ _⟩, 19, m, R, ⟨by decide, ⟨b1, by rw [b2, CB, b3, b4]; exact hFd⟩, RuC_fr hR (fun c k q1 q2 => by rw [b5 c k (by (try dsimp only); omega), hA.2 c k (by (try dsimp only); omega)])⟩, fun D hD => ?_⟩
  obtain ⟨d1, d2, d3⟩ := hD
  rw [b2, CB, b3, b4] at d1
  have nD : nF D 48 = 2 := by rw [(fr_n d3 (f := 48) (by (try dsimp only); omega)).2]; exact b2
  have oD : okF D 48 := fr_okF d3 (by (try dsimp only); omega) b1
  have CD : lv7 (D (28 + 1)) = cdV (lv7 (I 27) 5) := by rw [lv7_fr (fun k => d3 (28 + 1) k (by (try dsimp only); omega))]; exact CB
  have e6 : D (28 + 1) 6 = 0 := by
    have : D (28 + 1) 6 = lv7 (D (28 + 1)) 6 := (lv7_at (by decide)).symm
    rw [this, CD]; rfl
  refine bX11_duelOf_40 hd (nI x) (nI y) D J ?_
  refine ⟨⟨by unfold isCF; omega, mj_isk_mk _ _⟩, ⟨oD, by rw [nD]; exact isB_nI (i := 0) (by decide) (by decide), by rw [CD]; exact hFd.1⟩, ⟨by unfold isCF; omega, mj_isk_mk _ _⟩, ⟨oD, by rw [nD]; exact isB_nI (i := 1) (by decide) (by decide), by rw [CD]; exact hFd.1⟩, ?_⟩
  rw [nD, CD, d1, e6]
  refine h D (fun c k w => ?_)
  rw [d3 c k (fun z => w (by (try dsimp only at z); unfold Scr; omega)), b5 c k (fun z => w (by (try dsimp only at z); unfold Scr; omega)), hA.2 c k (fun z => w (by (try dsimp only at z); unfold Scr; omega))]
theorem sdX11_duelOf : mj_Sd mX11_duelOf 6 tX11_duelOf := by
  intro Ω l d hd as M Φ h
  unfold tX11_duelOf at h
  split at h
  · rename_i z_this x_ y_
    obtain ⟨⟨rfl, hM⟩, x, rfl, y, rfl, m, R, hp, h⟩ := h
    rw [mj_isk_of hM]
    exact mnX11_duelOf hd x y m R _ _ hp (by
      rw [mj_isk_of hM] at h
      exact h)
  · exact h.elim
def csX12_duelOf : List (Nat × Nat × Nat × mj_PT) := [(258, 0, 1, mj_rcv 12 tX12_begin), (312, 0, 2, mj_rcv 12 tX12_scoreOf), (382, 0, 1, mj_rcv 12 tX12_putAside), (385, 0, 1, mj_rcv 12 tX12_toGun), (388, 0, 1, mj_rcv 12 tX12_takeBack)]
theorem csX12_duelOf_ok : mj_Cs mX12_duelOf 10 csX12_duelOf := (mj_CsV (D' := 2) (ci := 12) (q := (RX12, TX12, 45)) sdX12_begin (Nat.le_of_ble_eq_true rfl) fX12_begin rfl rfl iX12_begin vX12_begin (by decide +kernel) l12_258 (mj_CsV (D' := 4) (ci := 12) (q := (RX12, TX12, 45)) sdX12_scoreOf (Nat.le_of_ble_eq_true rfl) fX12_scoreOf rfl rfl iX12_scoreOf vX12_scoreOf (by decide +kernel) l12_312 (mj_CsV (D' := 1) (ci := 12) (q := (RX12, TX12, 45)) sdX12_putAside (Nat.le_of_ble_eq_true rfl) fX12_putAside rfl rfl iX12_putAside vX12_putAside (by decide +kernel) l12_382 (mj_CsV (D' := 9) (ci := 12) (q := (RX12, TX12, 45)) sdX12_toGun (Nat.le_of_ble_eq_true rfl) fX12_toGun rfl rfl iX12_toGun vX12_toGun (by decide +kernel) l12_385 (mj_CsV (D' := 1) (ci := 12) (q := (RX12, TX12, 45)) sdX12_takeBack (Nat.le_of_ble_eq_true rfl) fX12_takeBack rfl rfl iX12_takeBack vX12_takeBack (by decide +kernel) l12_388 mj_Cs0)))))
def cutX12_duelOf : List (Nat × List Bool) := [(12, [true, true, true, true, true, false]), (75, [true, true, true, true, true, false]), (110, [true, true, true, true, true, false]), (211, [true, true, true, true, true, false]), (232, [true, true, true, true, true, false]), (240, [true, true, true, true, true, true]), (270, [true, true, true, true, true, true])]
def pX12_duelOf_0 : List (Nat × Instr × Nat) := [(0, .aload_n 0, 1), (1, .invokevirtual 382, 3), (4, .aload_n 0, 1), (5, .getfield 255, 3), (8, .istore_n 3, 1), (9, .iconst 0, 1), (10, .istore 4, 2), (12, .iload 4, 2)]
set_option maxRecDepth 100000 in
theorem dX12_duelOf_0 : mj_pd cX12_duelOf pX12_duelOf_0 := mj_pdB (by decide +kernel)
set_option maxRecDepth 100000 in
set_option maxHeartbeats 4000000 in
theorem inX12_duelOf {Ω : mj_Om} {l : Launch} {d : Nat} {Φ : Option Value → mj_M → Prop} (hd : 10 ≤ d) (x_ : Int32) (y_ : Int32) (I : Nat → Nat → Int32) (J : Nat → Nat → Int64)
    (h : (((91 = 91 ∧ mj_isk (mk I J)) ∧ (∀ I746 : Nat → Nat → Int32, (kpP I 106 111 0 0 49 I746) → (mj_G Ω l false mX12_duelOf d 0 0 Φ 0 0 12 ([some (.ref 91), some (.int x_), some (.int y_), some (.int (I746 91 22)), some (.int (0 : Int32)), none], [], (mk I746 J))))))) :
    mj_Met Ω l false mX12_duelOf d 0 0 [.ref 91, .int x_, .int y_] (mk I J) Φ := mj_entry (by decide) rfl (fun h => (by cases h)) (Nat.le_of_ble_eq_true rfl) (mj_blk (μ := mX12_duelOf) (P := pX12_duelOf_0) (cut := cutX12_duelOf) (cs := csX12_duelOf) dX12_duelOf_0 csX12_duelOf_ok hd 9 0 _ h)
def pX12_duelOf_12 : List (Nat × Instr × Nat) := [(12, .iload 4, 2), (14, .bipush 7, 2), (16, .if_icmp .ge 56, 3), (19, .aload_n 0, 1), (20, .getfield 78, 3), (23, .iload 4, 2), (25, .aload_n 0, 1), (26, .getfield 46, 3), (29, .iload 4, 2), (31, .iaload, 1), (32, .iastore, 1), (33, .aload_n 0, 1), (34, .getfield 46, 3), (37, .iload 4, 2), (39, .iload 4, 2), (41, .iconst 5, 1), (42, .if_icmp .ne 13, 3), (45, .aload_n 0, 1), (46, .getfield 46, 3), (49, .iload 4, 2), (51, .iaload, 1), (52, .goto 13, 3), (55, .iload 4, 2), (57, .ifCond .ne 7, 3), (60, .iconst 2, 1), (61, .goto 4, 3), (64, .iconst 0, 1), (65, .iastore, 1), (66, .iinc 4 1, 3), (69, .goto (-57), 3), (72, .iconst 0, 1), (73, .istore 4, 2), (75, .iload 4, 2)]
set_option maxRecDepth 100000 in
theorem dX12_duelOf_12 : mj_pd cX12_duelOf pX12_duelOf_12 := mj_pdB (by decide +kernel)
set_option maxRecDepth 100000 in
set_option maxHeartbeats 4000000 in
theorem bX12_duelOf_12 {Ω : mj_Om} {l : Launch} {d : Nat} {Φ : Option Value → mj_M → Prop} (hd : 10 ≤ d) (x1 : Int32) (x2 : Int32) (x3 : Int32) (x4 : Int32) (I : Nat → Nat → Int32) (J : Nat → Nat → Int64)
    (h : ((if x4 < (7 : Int32) then (mj_gd (mj_inB x4 7) (mj_gd (mj_inB x4 7) (if x4 = (5 : Int32) then (mj_gd (mj_inB x4 7) (mj_gd (mj_inB x4 7) (mj_G Ω l false mX12_duelOf d 0 0 Φ 0 0 12 ([some (.ref 91), some (.int x1), some (.int x2), some (.int x3), some (.int (x4 + (1 : Int32))), none], [], (mk (mj_ui (mj_ui I 113 (x4).toNatClampNeg (I 104 (x4).toNatClampNeg)) 104 (x4).toNatClampNeg (I 104 (x4).toNatClampNeg)) J))))) else (if x4 = (0 : Int32) then (mj_gd (mj_inB x4 7) (mj_G Ω l false mX12_duelOf d 0 0 Φ 0 0 12 ([some (.ref 91), some (.int x1), some (.int x2), some (.int x3), some (.int (x4 + (1 : Int32))), none], [], (mk (mj_ui (mj_ui I 113 (x4).toNatClampNeg (I 104 (x4).toNatClampNeg)) 104 (x4).toNatClampNeg (2 : Int32)) J)))) else (mj_gd (mj_inB x4 7) (mj_G Ω l false mX12_duelOf d 0 0 Φ 0 0 12 ([some (.ref 91), some (.int x1), some (.int x2), some (.int x3), some (.int (x4 + (1 : Int32))), none], [], (mk (mj_ui (mj_ui I 113 (x4).toNatClampNeg (I 104 (x4).toNatClampNeg)) 104 (x4).toNatClampNeg (0 : Int32)) J)))))))) else (mj_G Ω l false mX12_duelOf d 0 0 Φ 0 0 75 ([some (.ref 91), some (.int x1), some (.int x2), some (.int x3), some (.int (0 : Int32)), none], [], (mk I J)))))) :
    mj_G Ω l false mX12_duelOf d 0 0 Φ 0 0 12 ([some (.ref 91), some (.int x1), some (.int x2), some (.int x3), some (.int x4), none], [], mk I J) := mj_blk (μ := mX12_duelOf) (P := pX12_duelOf_12) (cut := cutX12_duelOf) (cs := csX12_duelOf) dX12_duelOf_12 csX12_duelOf_ok hd 34 12 _ h
def pX12_duelOf_75 : List (Nat × Instr × Nat) := [(75, .iload 4, 2), (77, .bipush 12, 2), (79, .if_icmp .ge 23, 3), (82, .aload_n 0, 1), (83, .getfield 81, 3), (86, .iload 4, 2), (88, .aload_n 0, 1), (89, .getfield 49, 3), (92, .iload 4, 2), (94, .iaload, 1), (95, .iastore, 1), (96, .iinc 4 1, 3), (99, .goto (-24), 3), (102, .aload_n 0, 1), (103, .iconst 2, 1), (104, .putfield 255, 3), (107, .iconst 0, 1), (108, .istore 4, 2), (110, .iload 4, 2)]
set_option maxRecDepth 100000 in
theorem dX12_duelOf_75 : mj_pd cX12_duelOf pX12_duelOf_75 := mj_pdB (by decide +kernel)
set_option maxRecDepth 100000 in
set_option maxHeartbeats 4000000 in
theorem bX12_duelOf_75 {Ω : mj_Om} {l : Launch} {d : Nat} {Φ : Option Value → mj_M → Prop} (hd : 10 ≤ d) (x1 : Int32) (x2 : Int32) (x3 : Int32) (x4 : Int32) (I : Nat → Nat → Int32) (J : Nat → Nat → Int64)
    (h : ((if x4 < (12 : Int32) then (mj_gd (mj_inB x4 48) (mj_gd (mj_inB x4 12) (mj_G Ω l false mX12_duelOf d 0 0 Φ 0 0 75 ([some (.ref 91), some (.int x1), some (.int x2), some (.int x3), some (.int (x4 + (1 : Int32))), none], [], (mk (mj_ui I 114 (x4).toNatClampNeg (I 105 (x4).toNatClampNeg)) J))))) else (mj_G Ω l false mX12_duelOf d 0 0 Φ 0 0 110 ([some (.ref 91), some (.int x1), some (.int x2), some (.int x3), some (.int (0 : Int32)), none], [], (mk (mj_ui I 91 22 (2 : Int32)) J)))))) :
    mj_G Ω l false mX12_duelOf d 0 0 Φ 0 0 75 ([some (.ref 91), some (.int x1), some (.int x2), some (.int x3), some (.int x4), none], [], mk I J) := mj_blk (μ := mX12_duelOf) (P := pX12_duelOf_75) (cut := cutX12_duelOf) (cs := csX12_duelOf) dX12_duelOf_75 csX12_duelOf_ok hd 20 75 _ h
def pX12_duelOf_110 : List (Nat × Instr × Nat) := [(110, .iload 4, 2), (112, .iconst 2, 1), (113, .if_icmp .ge 98, 3), (116, .aload_n 0, 1), (117, .getfield 49, 3), (120, .bipush 6, 2), (122, .iload 4, 2), (124, .imul, 1), (125, .iconst 0, 1), (126, .iadd, 1), (127, .iload 4, 2), (129, .iastore, 1), (130, .aload_n 0, 1), (131, .getfield 49, 3), (134, .bipush 6, 2), (136, .iload 4, 2), (138, .imul, 1), (139, .iconst 1, 1), (140, .iadd, 1), (141, .bipush 9, 2), (143, .iastore, 1), (144, .aload_n 0, 1), (145, .getfield 49, 3), (148, .bipush 6, 2), (150, .iload 4, 2), (152, .imul, 1), (153, .iconst 2, 1), (154, .iadd, 1), (155, .iconst 0, 1), (156, .iastore, 1), (157, .aload_n 0, 1), (158, .getfield 49, 3), (161, .bipush 6, 2), (163, .iload 4, 2), (165, .imul, 1), (166, .iconst 3, 1), (167, .iadd, 1), (168, .iconst 2, 1), (169, .iastore, 1), (170, .aload_n 0, 1), (171, .getfield 49, 3), (174, .bipush 6, 2), (176, .iload 4, 2), (178, .imul, 1), (179, .iconst 4, 1), (180, .iadd, 1), (181, .iconst 5, 1), (182, .iastore, 1), (183, .aload_n 0, 1), (184, .getfield 49, 3), (187, .bipush 6, 2), (189, .iload 4, 2), (191, .imul, 1), (192, .iconst 5, 1), (193, .iadd, 1), (194, .iload 4, 2), (196, .ifCond .ne 7, 3), (199, .iload_n 1, 1), (200, .goto 4, 3), (203, .iload_n 2, 1), (204, .iastore, 1), (205, .iinc 4 1, 3), (208, .goto (-98), 3), (211, .aload_n 0, 1)]
set_option maxRecDepth 100000 in
theorem dX12_duelOf_110 : mj_pd cX12_duelOf pX12_duelOf_110 := mj_pdB (by decide +kernel)
set_option maxRecDepth 100000 in
set_option maxHeartbeats 4000000 in
theorem bX12_duelOf_110 {Ω : mj_Om} {l : Launch} {d : Nat} {Φ : Option Value → mj_M → Prop} (hd : 10 ≤ d) (x1 : Int32) (x2 : Int32) (x3 : Int32) (x4 : Int32) (I : Nat → Nat → Int32) (J : Nat → Nat → Int64)
    (h : ((if x4 < (2 : Int32) then (mj_gd (mj_inB (((6 : Int32) * x4) + (0 : Int32)) 48) (mj_gd (mj_inB (((6 : Int32) * x4) + (1 : Int32)) 48) (mj_gd (mj_inB (((6 : Int32) * x4) + (2 : Int32)) 48) (mj_gd (mj_inB (((6 : Int32) * x4) + (3 : Int32)) 48) (mj_gd (mj_inB (((6 : Int32) * x4) + (4 : Int32)) 48) (if x4 = (0 : Int32) then (mj_gd (mj_inB (((6 : Int32) * x4) + (5 : Int32)) 48) (mj_G Ω l false mX12_duelOf d 0 0 Φ 0 0 110 ([some (.ref 91), some (.int x1), some (.int x2), some (.int x3), some (.int (x4 + (1 : Int32))), none], [], (mk (mj_ui (mj_ui (mj_ui (mj_ui (mj_ui (mj_ui I 105 ((((6 : Int32) * x4) + (0 : Int32))).toNatClampNeg x4) 105 ((((6 : Int32) * x4) + (1 : Int32))).toNatClampNeg (9 : Int32)) 105 ((((6 : Int32) * x4) + (2 : Int32))).toNatClampNeg (0 : Int32)) 105 ((((6 : Int32) * x4) + (3 : Int32))).toNatClampNeg (2 : Int32)) 105 ((((6 : Int32) * x4) + (4 : Int32))).toNatClampNeg (5 : Int32)) 105 ((((6 : Int32) * x4) + (5 : Int32))).toNatClampNeg x1) J)))) else (mj_gd (mj_inB (((6 : Int32) * x4) + (5 : Int32)) 48) (mj_G Ω l false mX12_duelOf d 0 0 Φ 0 0 110 ([some (.ref 91), some (.int x1), some (.int x2), some (.int x3), some (.int (x4 + (1 : Int32))), none], [], (mk (mj_ui (mj_ui (mj_ui (mj_ui (mj_ui (mj_ui I 105 ((((6 : Int32) * x4) + (0 : Int32))).toNatClampNeg x4) 105 ((((6 : Int32) * x4) + (1 : Int32))).toNatClampNeg (9 : Int32)) 105 ((((6 : Int32) * x4) + (2 : Int32))).toNatClampNeg (0 : Int32)) 105 ((((6 : Int32) * x4) + (3 : Int32))).toNatClampNeg (2 : Int32)) 105 ((((6 : Int32) * x4) + (4 : Int32))).toNatClampNeg (5 : Int32)) 105 ((((6 : Int32) * x4) + (5 : Int32))).toNatClampNeg x2) J)))))))))) else (mj_G Ω l false mX12_duelOf d 0 0 Φ 0 0 211 ([some (.ref 91), some (.int x1), some (.int x2), some (.int x3), some (.int x4), none], [], (mk I J)))))) :
    mj_G Ω l false mX12_duelOf d 0 0 Φ 0 0 110 ([some (.ref 91), some (.int x1), some (.int x2), some (.int x3), some (.int x4), none], [], mk I J) := mj_blk (μ := mX12_duelOf) (P := pX12_duelOf_110) (cut := cutX12_duelOf) (cs := csX12_duelOf) dX12_duelOf_110 csX12_duelOf_ok hd 65 110 _ h
def pX12_duelOf_211 : List (Nat × Instr × Nat) := [(211, .aload_n 0, 1), (212, .invokevirtual 258, 3), (215, .aload_n 0, 1), (216, .invokevirtual 385, 3), (219, .aload_n 0, 1), (220, .iconst 0, 1), (221, .invokevirtual 312, 3), (224, .aload_n 0, 1), (225, .iconst 1, 1), (226, .invokevirtual 312, 3), (229, .isub, 1), (230, .istore 4, 2), (232, .aload_n 0, 1)]
set_option maxRecDepth 100000 in
theorem dX12_duelOf_211 : mj_pd cX12_duelOf pX12_duelOf_211 := mj_pdB (by decide +kernel)
set_option maxRecDepth 100000 in
set_option maxHeartbeats 4000000 in
theorem bX12_duelOf_211 {Ω : mj_Om} {l : Launch} {d : Nat} {Φ : Option Value → mj_M → Prop} (hd : 10 ≤ d) (x1 : Int32) (x2 : Int32) (x3 : Int32) (x4 : Int32) (I : Nat → Nat → Int32) (J : Nat → Nat → Int64)
    (h : (((91 = 91 ∧ mj_isk (mk I J)) ∧ ((okM I) ∧ (∀ I748 : Nat → Nat → Int32, ((∀ b j, b < nM I → j < 6 → I748 106 (6 * b + j) = bgV I b j) ∧ I748 106 48 = 0 ∧ fr (fun c k => c = 106 ∧ k < 49) I I748) → ((91 = 91 ∧ mj_isk (mk I748 J)) ∧ (∃ u750 : Int, (∃ m751 : Nat, (∃ R752 : RF, ((u750 ≤ 1000 ∧ FM u750 I748 ∧ RuM I748 m751 R752 ∧ hOk (nM I748) (I748 91 25)) ∧ (∀ I753 : Nat → Nat → Int32, (VM I753 = gunG (nM I748) (lv7 (I748 104)) R752 (I748 91 25) ((lv7 (I748 104)) 5 - (I748 106 48)).toNatClampNeg (I748 91 26) (VM I748) (I748 106 48) ∧ I753 106 48 = (lv7 (I748 104)) 5 ∧ fr (fun c k => c = 100 ∨ c = 101 ∨ (c = 106 ∧ k < 49) ∨ c = 107 ∨ c = 108 ∨ c = 109 ∨ (c = 91 ∧ k = 26)) I748 I753) → ((91 = 91 ∧ mj_isk (mk I753 J)) ∧ (∃ b755 : Nat, (0 : Int32) = nI b755 ∧ ((okM I753 ∧ b755 < nM I753 ∧ lineOk (lv7 (I753 104)) ∧ colB (nM I753) (VM I753)) ∧ ((91 = 91 ∧ mj_isk (mk I753 J)) ∧ (∃ b758 : Nat, (1 : Int32) = nI b758 ∧ ((okM I753 ∧ b758 < nM I753 ∧ lineOk (lv7 (I753 104)) ∧ colB (nM I753) (VM I753)) ∧ (mj_G Ω l false mX12_duelOf d 0 0 Φ 0 0 232 ([some (.ref 91), some (.int x1), some (.int x2), some (.int x3), some (.int ((score (nM I753) (lv7 (I753 104)) (I753 104 6) (VM I753) b755) - (score (nM I753) (lv7 (I753 104)) (I753 104 6) (VM I753) b758))), none], [], (mk I753 J)))))))))))))))))))) :
    mj_G Ω l false mX12_duelOf d 0 0 Φ 0 0 211 ([some (.ref 91), some (.int x1), some (.int x2), some (.int x3), some (.int x4), none], [], mk I J) := mj_blk (μ := mX12_duelOf) (P := pX12_duelOf_211) (cut := cutX12_duelOf) (cs := csX12_duelOf) dX12_duelOf_211 csX12_duelOf_ok hd 14 211 _ h
def pX12_duelOf_232 : List (Nat × Instr × Nat) := [(232, .aload_n 0, 1), (233, .iload_n 3, 1), (234, .putfield 255, 3), (237, .iconst 0, 1), (238, .istore 5, 2), (240, .iload 5, 2)]
set_option maxRecDepth 100000 in
theorem dX12_duelOf_232 : mj_pd cX12_duelOf pX12_duelOf_232 := mj_pdB (by decide +kernel)
set_option maxRecDepth 100000 in
set_option maxHeartbeats 4000000 in
theorem bX12_duelOf_232 {Ω : mj_Om} {l : Launch} {d : Nat} {Φ : Option Value → mj_M → Prop} (hd : 10 ≤ d) (x1 : Int32) (x2 : Int32) (x3 : Int32) (x4 : Int32) (I : Nat → Nat → Int32) (J : Nat → Nat → Int64)
    (h : ((mj_G Ω l false mX12_duelOf d 0 0 Φ 0 0 240 ([some (.ref 91), some (.int x1), some (.int x2), some (.int x3), some (.int x4), some (.int (0 : Int32))], [], (mk (mj_ui I 91 22 x3) J))))) :
    mj_G Ω l false mX12_duelOf d 0 0 Φ 0 0 232 ([some (.ref 91), some (.int x1), some (.int x2), some (.int x3), some (.int x4), none], [], mk I J) := mj_blk (μ := mX12_duelOf) (P := pX12_duelOf_232) (cut := cutX12_duelOf) (cs := csX12_duelOf) dX12_duelOf_232 csX12_duelOf_ok hd 7 232 _ h
def pX12_duelOf_240 : List (Nat × Instr × Nat) := [(240, .iload 5, 2), (242, .bipush 7, 2), (244, .if_icmp .ge 23, 3), (247, .aload_n 0, 1), (248, .getfield 46, 3), (251, .iload 5, 2), (253, .aload_n 0, 1), (254, .getfield 78, 3), (257, .iload 5, 2), (259, .iaload, 1), (260, .iastore, 1), (261, .iinc 5 1, 3), (264, .goto (-24), 3), (267, .iconst 0, 1), (268, .istore 5, 2), (270, .iload 5, 2)]
set_option maxRecDepth 100000 in
theorem dX12_duelOf_240 : mj_pd cX12_duelOf pX12_duelOf_240 := mj_pdB (by decide +kernel)
set_option maxRecDepth 100000 in
set_option maxHeartbeats 4000000 in
theorem bX12_duelOf_240 {Ω : mj_Om} {l : Launch} {d : Nat} {Φ : Option Value → mj_M → Prop} (hd : 10 ≤ d) (x1 : Int32) (x2 : Int32) (x3 : Int32) (x4 : Int32) (x5 : Int32) (I : Nat → Nat → Int32) (J : Nat → Nat → Int64)
    (h : ((if x5 < (7 : Int32) then (mj_gd (mj_inB x5 7) (mj_gd (mj_inB x5 7) (mj_G Ω l false mX12_duelOf d 0 0 Φ 0 0 240 ([some (.ref 91), some (.int x1), some (.int x2), some (.int x3), some (.int x4), some (.int (x5 + (1 : Int32)))], [], (mk (mj_ui I 104 (x5).toNatClampNeg (I 113 (x5).toNatClampNeg)) J))))) else (mj_G Ω l false mX12_duelOf d 0 0 Φ 0 0 270 ([some (.ref 91), some (.int x1), some (.int x2), some (.int x3), some (.int x4), some (.int (0 : Int32))], [], (mk I J)))))) :
    mj_G Ω l false mX12_duelOf d 0 0 Φ 0 0 240 ([some (.ref 91), some (.int x1), some (.int x2), some (.int x3), some (.int x4), some (.int x5)], [], mk I J) := mj_blk (μ := mX12_duelOf) (P := pX12_duelOf_240) (cut := cutX12_duelOf) (cs := csX12_duelOf) dX12_duelOf_240 csX12_duelOf_ok hd 17 240 _ h
def pX12_duelOf_270 : List (Nat × Instr × Nat) := [(270, .iload 5, 2), (272, .bipush 12, 2), (274, .if_icmp .ge 23, 3), (277, .aload_n 0, 1), (278, .getfield 49, 3), (281, .iload 5, 2), (283, .aload_n 0, 1), (284, .getfield 81, 3), (287, .iload 5, 2), (289, .iaload, 1), (290, .iastore, 1), (291, .iinc 5 1, 3), (294, .goto (-24), 3), (297, .aload_n 0, 1), (298, .invokevirtual 388, 3), (301, .iload 4, 2), (303, .ireturn, 1)]
set_option maxRecDepth 100000 in
theorem dX12_duelOf_270 : mj_pd cX12_duelOf pX12_duelOf_270 := mj_pdB (by decide +kernel)
set_option maxRecDepth 100000 in
set_option maxHeartbeats 4000000 in
theorem bX12_duelOf_270 {Ω : mj_Om} {l : Launch} {d : Nat} {Φ : Option Value → mj_M → Prop} (hd : 10 ≤ d) (x1 : Int32) (x2 : Int32) (x3 : Int32) (x4 : Int32) (x5 : Int32) (I : Nat → Nat → Int32) (J : Nat → Nat → Int64)
    (h : ((if x5 < (12 : Int32) then (mj_gd (mj_inB x5 12) (mj_gd (mj_inB x5 48) (mj_G Ω l false mX12_duelOf d 0 0 Φ 0 0 270 ([some (.ref 91), some (.int x1), some (.int x2), some (.int x3), some (.int x4), some (.int (x5 + (1 : Int32)))], [], (mk (mj_ui I 105 (x5).toNatClampNeg (I 114 (x5).toNatClampNeg)) J))))) else ((91 = 91 ∧ mj_isk (mk I J)) ∧ (∀ I761 : Nat → Nat → Int32, ((∀ k, k < 49 → I761 106 k = I 111 k) ∧ I761 91 25 = -1 ∧ I761 91 26 = 0 ∧ fr (fun c k => (c = 106 ∧ k < 49) ∨ (c = 91 ∧ (k = 25 ∨ k = 26))) I I761) → (Φ (some (.int x4)) (mk I761 J))))))) :
    mj_G Ω l false mX12_duelOf d 0 0 Φ 0 0 270 ([some (.ref 91), some (.int x1), some (.int x2), some (.int x3), some (.int x4), some (.int x5)], [], mk I J) := mj_blk (μ := mX12_duelOf) (P := pX12_duelOf_270) (cut := cutX12_duelOf) (cs := csX12_duelOf) dX12_duelOf_270 csX12_duelOf_ok hd 18 270 _ h
def tX12_duelOf : mj_PT := fun as M Φ => match as with
  | [.ref this, .int x_, .int y_] => ((this = 91 ∧ mj_isk M) ∧ (∃ x : Nat, x_ = nI x ∧ (∃ y : Nat, y_ = nI y ∧ (∃ m : Nat, (∃ R : RF, ((qM M.2.2.1 m R ∧ 0 < nM M.2.2.1 ∧ x < 4 ∧ y < 4) ∧ (∀ I1 : Nat → Nat → Int32, (fr Scr M.2.2.1 I1) → Φ (some (.int (duelV R (lv7 (M.2.2.1 104) 5) x y))) (M.1, M.2.1, I1, M.2.2.2))))))))
  | _ => False
set_option maxHeartbeats 16000000 in
theorem mnX12_duelOf {Ω : mj_Om} {l : Launch} {d : Nat} {Φ : Option Value → mj_M → Prop} (hd : 10 ≤ d) (x : Nat) (y : Nat) (m : Nat) (R : RF) (I : Nat → Nat → Int32) (J : Nat → Nat → Int64) (hp : qM I m R ∧ 0 < nM I ∧ x < 4 ∧ y < 4) (h : ∀ I1 : Nat → Nat → Int32, (fr Scr I I1) → Φ (some (.int (duelV R (lv7 (I 104) 5) x y))) (mk I1 J)) : mj_Met Ω l false mX12_duelOf d 0 0 [.ref 91, .int (nI x), .int (nI y)] (mk I J) Φ := by
  refine inX12_duelOf hd (nI x) (nI y) I J ?_
  obtain ⟨hq, hpos, hx4, hy4⟩ := hp
  obtain ⟨⟨hc, hn⟩, hR, hFF, h25, h26⟩ := id hq
  have hF := hFF hpos
  have l5 := hF.1.2.2.2.2.2.1
  refine ⟨⟨by trivial, mj_isk_mk _ _⟩, fun A hA => ?_⟩
  have ha0 := asd_0 hA
  have e22 : A 91 22 = I 91 22 := ha0.2 91 22 (by (try dsimp only); omega)
  rw [e22]
  have k270 : ∀ (v x5 : Int32) (D : Nat → Nat → Int32), v = duelV R (lv7 (I 104) 5) x y → D 91 22 = I 91 22 → (∀ k, k < 7 → D 104 k = I 104 k) → (∀ k, k < 12 → D 114 k = I 105 k) → (∀ k, k < 49 → D 111 k = I 106 k) → fr (fun c k => c = 100 ∨ c = 101 ∨ (c = 106 ∧ k < 49) ∨ c = 107 ∨ c = 108 ∨ c = 109 ∨ c = 111 ∨ c = 113 ∨ c = 114 ∨ (c = 104 ∧ k < 7) ∨ (c = 105 ∧ k < 12) ∨ (c = 91 ∧ (k = 22 ∨ k = 26))) I D → mj_G Ω l false mX12_duelOf d 0 0 Φ 0 0 270 ([some (.ref 91), some (.int (nI x)), some (.int (nI y)), some (.int (I 91 22)), some (.int v), some (.int (nI 0))], [], mk D J) := by
    intro v x5 D hv h22 h104 h114 h111 hfr
    refine lp_inv (σ := Nat → Nat → Int32) (n := 12) (G := fun i E => mj_G Ω l false mX12_duelOf d 0 0 Φ 0 0 270 ([some (.ref 91), some (.int (nI x)), some (.int (nI y)), some (.int (I 91 22)), some (.int v), some (.int (nI i))], [], mk E J)) (fun i E => kpP D 114 105 0 0 i E) (fun i E hi hI hk => ?_) (fun E hI => ?_) 12 0 D (by omega) kpP_0
    · refine bX12_duelOf_270 hd (nI x) (nI y) (I 91 22) v (nI i) E J ?_
      rw [if_pos (show nI i < (12 : Int32) by rw [show (12 : Int32) = nI 12 from rfl, jn_lt (by omega) (by omega)]; exact hi)]
      simp (disch := omega) only [jn_in, jn_cl, gd_dec, jn_succ]
      have := kpP_up (by decide) hI
      rw [Nat.zero_add] at this
      exact hk _ this
    · refine bX12_duelOf_270 hd (nI x) (nI y) (I 91 22) v (nI 12) E J ?_
      rw [if_neg (by decide)]
      refine ⟨⟨by trivial, mj_isk_mk _ _⟩, fun G hG => ?_⟩
      rw [hv]
      refine h G (fun c k w => ?_)
      by_cases z1 : c = 106 ∧ k < 49
      · rw [z1.1, hG.1 k z1.2, hI.2.2 111 k (by (try dsimp only); omega), h111 k z1.2]
      by_cases z2 : c = 91 ∧ (k = 25 ∨ k = 26)
      · rcases z2.2 with g | g
        · rw [z2.1, g, hG.2.1, h25]
        · rw [z2.1, g, hG.2.2.1, h26]
      rw [hG.2.2.2 c k (by (try dsimp only); omega)]
      by_cases z3 : c = 105
      · rw [z3]
        by_cases z4 : k < 12
        · have := hI.1 k z4
          rw [Nat.zero_add] at this
          rw [this, h114 k z4]
        · rw [hI.2.1 k (by omega), hfr 105 k (by (try dsimp only); omega)]
      rw [hI.2.2 c k z3]
      by_cases z5 : c = 104 ∧ k < 7
      · rw [z5.1, h104 k z5.2]
      by_cases z6 : c = 91 ∧ k = 22
      · rw [z6.1, z6.2, h22]
      refine hfr c k (fun g => w ?_)
      (try dsimp only at g)
      unfold Scr
      omega
  have k232 : ∀ (v : Int32) (D : Nat → Nat → Int32), v = duelV R (lv7 (I 104) 5) x y → (∀ k, k < 7 → D 113 k = I 104 k) → (∀ k, k < 12 → D 114 k = I 105 k) → (∀ k, k < 49 → D 111 k = I 106 k) → fr (fun c k => c = 100 ∨ c = 101 ∨ (c = 106 ∧ k < 49) ∨ c = 107 ∨ c = 108 ∨ c = 109 ∨ c = 111 ∨ c = 113 ∨ c = 114 ∨ (c = 104 ∧ k < 7) ∨ (c = 105 ∧ k < 12) ∨ (c = 91 ∧ (k = 22 ∨ k = 26))) I D → mj_G Ω l false mX12_duelOf d 0 0 Φ 0 0 232 ([some (.ref 91), some (.int (nI x)), some (.int (nI y)), some (.int (I 91 22)), some (.int v), none], [], mk D J) := by
    intro v D hv h113 h114 h111 hfr
    refine bX12_duelOf_232 hd (nI x) (nI y) (I 91 22) v D J ?_
    have hD1 : fr (fun c k => c = 91 ∧ k = 22) D (mj_ui D 91 22 (I 91 22)) := fr_ui fr_rf ⟨rfl, rfl⟩
    have h22 : (mj_ui D 91 22 (I 91 22)) 91 22 = I 91 22 := ui_s
    generalize mj_ui D 91 22 (I 91 22) = D1 at hD1 h22 ⊢
    refine lp_inv (σ := Nat → Nat → Int32) (n := 7) (G := fun i E => mj_G Ω l false mX12_duelOf d 0 0 Φ 0 0 240 ([some (.ref 91), some (.int (nI x)), some (.int (nI y)), some (.int (I 91 22)), some (.int v), some (.int (nI i))], [], mk E J)) (fun i E => kpP D1 113 104 0 0 i E) (fun i E hi hI hk => ?_) (fun E hI => ?_) 7 0 D1 (by omega) kpP_0
    · refine bX12_duelOf_240 hd (nI x) (nI y) (I 91 22) v (nI i) E J ?_
      rw [if_pos (show nI i < (7 : Int32) by rw [show (7 : Int32) = nI 7 from rfl, jn_lt (by omega) (by omega)]; exact hi)]
      simp (disch := omega) only [jn_in, jn_cl, gd_dec, jn_succ]
      have := kpP_up (by decide) hI
      rw [Nat.zero_add] at this
      exact hk _ this
    · refine bX12_duelOf_240 hd (nI x) (nI y) (I 91 22) v (nI 7) E J ?_
      rw [if_neg (by decide)]
      refine k270 v 0 E hv (by rw [hI.2.2 91 22 (by (try dsimp only); omega)]; exact h22) (fun k hk => ?_) (fun k hk => ?_) (fun k hk => ?_) (fun c k w => ?_)
      · have := hI.1 k hk
        rw [Nat.zero_add] at this
        rw [this, hD1 113 k (by (try dsimp only); omega), h113 k hk]
      · rw [hI.2.2 114 k (by (try dsimp only); omega), hD1 114 k (by (try dsimp only); omega)]; exact h114 k hk
      · rw [hI.2.2 111 k (by (try dsimp only); omega), hD1 111 k (by (try dsimp only); omega)]; exact h111 k hk
      · try dsimp only at w
        by_cases z : c = 104
        · rw [z, hI.2.1 k (by omega), hD1 104 k (by (try dsimp only); omega), hfr 104 k (by (try dsimp only); omega)]
        · rw [hI.2.2 c k z, hD1 c k (by (try dsimp only); omega), hfr c k (by (try dsimp only); omega)]
  have k211 : ∀ (x4 : Int32) (D : Nat → Nat → Int32), D 91 22 = 2 → (∀ k, k < 7 → D 104 k = cdV (lv7 (I 104) 5) k) → (∀ k, k < 7 → D 113 k = I 104 k) → (∀ k, k < 12 → D 114 k = I 105 k) → (∀ k, k < 49 → D 111 k = I 106 k) → (∀ b, b < 2 → D 105 (6 * b) = nI b ∧ D 105 (6 * b + 1) = 9 ∧ D 105 (6 * b + 2) = 0 ∧ D 105 (6 * b + 3) = 2 ∧ D 105 (6 * b + 4) = 5 ∧ D 105 (6 * b + 5) = (if b = 0 then nI x else nI y)) → fr (fun c k => c = 100 ∨ c = 101 ∨ (c = 106 ∧ k < 49) ∨ c = 107 ∨ c = 108 ∨ c = 109 ∨ c = 111 ∨ c = 113 ∨ c = 114 ∨ (c = 104 ∧ k < 7) ∨ (c = 105 ∧ k < 12) ∨ (c = 91 ∧ (k = 22 ∨ k = 26))) I D → mj_G Ω l false mX12_duelOf d 0 0 Φ 0 0 211 ([some (.ref 91), some (.int (nI x)), some (.int (nI y)), some (.int (I 91 22)), some (.int x4), none], [], mk D J) := by
    intro x4 D h22 h104 h113 h114 h111 h105 hfr
    refine bX12_duelOf_211 hd (nI x) (nI y) (I 91 22) x4 D J ?_
    have n2 : nM D = 2 := by unfold nM; rw [h22]; decide
    have oD : okM D := ⟨by rw [n2, h22]; rfl, by omega⟩
    refine ⟨⟨by trivial, mj_isk_mk _ _⟩, oD, fun B hB => ?_⟩
    obtain ⟨b1, b2, b3⟩ := hB
    obtain ⟨oB, nB, -⟩ := mM_fr b3 (by (try dsimp only); omega) oD
    rw [n2] at nB b1
    have CB : lv7 (B 104) = cdV (lv7 (I 104) 5) := lv7_cd (fun j hj => by rw [b3 104 j (by (try dsimp only); omega)]; exact h104 j hj)
    have VB : VM B = dV x y := by
      funext k b
      unfold VM vM dV
      rw [nB]
      by_cases hb : b < 2
      · rw [if_pos hb, if_pos hb]
        obtain ⟨g0, g1, g2, g3, g4, g5⟩ := h105 b hb
        have r5 : ∀ j, B 105 j = D 105 j := fun j => b3 105 j (by (try dsimp only); omega)
        have ne4 : ¬ (if b = 0 then nI x else nI y) = 4 := by
          split
          · rw [show (4 : Int32) = nI 4 from rfl, jn_eq (by omega) (by omega)]; omega
          · rw [show (4 : Int32) = nI 4 from rfl, jn_eq (by omega) (by omega)]; omega
        match k with
        | 0 => show B 106 (6 * b + 0) = nI b; rw [b1 b 0 hb (by decide)]; exact g0
        | 1 => show B 106 (6 * b + 1) = 9; rw [b1 b 1 hb (by decide)]; exact g1
        | 2 => show B 106 (6 * b + 2) = 0; rw [b1 b 2 hb (by decide)]; exact g2
        | 3 => show B 105 (6 * b + 3) = 2; rw [r5]; exact g3
        | 4 => show B 105 (6 * b + 4) = 5; rw [r5]; exact g4
        | 5 =>
          show B 106 (6 * b + 3) = if b = 0 then nI x else nI y
          rw [b1 b 3 hb (by decide)]
          show (if D 105 (6 * b + 5) = 4 then -1 else D 105 (6 * b + 5)) = _
          rw [g5, if_neg ne4]
        | 6 => show B 106 (6 * b + 4) = 0; rw [b1 b 4 hb (by decide)]; rfl
        | 7 => show B 106 (6 * b + 5) = 0; rw [b1 b 5 hb (by decide)]; rfl
        | k + 8 => rw [if_neg (by omega)]; rfl
      · rw [if_neg hb, if_neg hb]
    have hFd := dV_ok (x := x) (y := y) l5
    have b25 : B 91 25 = -1 := by rw [b3 91 25 (by (try dsimp only); omega), hfr 91 25 (by (try dsimp only); omega)]; exact h25
    have hRB : RuM B m R := RuM_fr hR (by rw [b3 91 13 (by (try dsimp only); omega), hfr 91 13 (by (try dsimp only); omega)]) (fun c k q1 q2 => by rw [b3 c k (by (try dsimp only); omega), hfr c k (by (try dsimp only); omega)])
    refine ⟨⟨by trivial, mj_isk_mk _ _⟩, 19, m, R, ⟨by decide, ⟨oB, by rw [nB, CB, VB, b2]; exact hFd⟩, hRB, by rw [b25]; exact Or.inl rfl⟩, fun E hE => ?_⟩
    obtain ⟨d1, d2, d3⟩ := hE
    obtain ⟨oE, nE, -⟩ := mM_fr d3 (by (try dsimp only); omega) oB
    rw [nB] at nE
    have CE : lv7 (E 104) = cdV (lv7 (I 104) 5) := by rw [lv7_fr (fun q => d3 104 q (by (try dsimp only); omega)), CB]
    have e6 : E 104 6 = 0 := by rw [← lv7_at (g := E 104) (by decide), CE]; rfl
    rw [nB, CB, VB, b2, b25, gunG_V] at d1
    obtain ⟨s', hG⟩ := FOk_gunA (R := R) (by decide) hFd
    have hcb : colB (nM E) (VM E) := by rw [nE, d1]; exact FOk_col hG
    refine ⟨⟨by trivial, mj_isk_mk _ _⟩, 0, rfl, ⟨oE, by omega, by rw [CE]; exact hFd.1, hcb⟩, ⟨by trivial, mj_isk_mk _ _⟩, 1, rfl, ⟨oE, by omega, by rw [CE]; exact hFd.1, hcb⟩, ?_⟩
    rw [nE, CE, d1, e6]
    refine k232 _ E rfl (fun k hk => ?_) (fun k hk => ?_) (fun k hk => ?_) (fun c k w => ?_)
    · rw [d3 113 k (by (try dsimp only); omega), b3 113 k (by (try dsimp only); omega)]; exact h113 k hk
    · rw [d3 114 k (by (try dsimp only); omega), b3 114 k (by (try dsimp only); omega)]; exact h114 k hk
    · rw [d3 111 k (by (try dsimp only); omega), b3 111 k (by (try dsimp only); omega)]; exact h111 k hk
    · try dsimp only at w
      rw [d3 c k (by (try dsimp only); omega), b3 c k (by (try dsimp only); omega), hfr c k (by (try dsimp only); omega)]
  refine lp_inv (σ := Nat → Nat → Int32) (n := 7) (G := fun i B => mj_G Ω l false mX12_duelOf d 0 0 Φ 0 0 12 ([some (.ref 91), some (.int (nI x)), some (.int (nI y)), some (.int (I 91 22)), some (.int (nI i)), none], [], mk B J)) (fun i B => (∀ k, k < i → B 113 k = I 104 k ∧ B 104 k = cdV (lv7 (I 104) 5) k) ∧ (∀ k, i ≤ k → B 104 k = I 104 k) ∧ fr (fun c k => c = 113 ∨ (c = 104 ∧ k < 7)) A B) (fun i B hi hI hk => ?_) (fun B hI => ?_) 7 0 A (by omega) ⟨fun k hk => absurd hk (Nat.not_lt_zero k), fun k _ => ha0.2 104 k (by (try dsimp only); omega), fr_rf⟩
  · refine bX12_duelOf_12 hd (nI x) (nI y) (I 91 22) (nI i) B J ?_
    obtain ⟨i1, i2, i3⟩ := hI
    rw [if_pos (show nI i < (7 : Int32) by rw [show (7 : Int32) = nI 7 from rfl, jn_lt (by omega) (by omega)]; exact hi)]
    simp (disch := omega) only [jn_in, jn_cl, gd_dec, jn_succ]
    have go : ∀ v : Int32, v = cdV (lv7 (I 104) 5) i → mj_G Ω l false mX12_duelOf d 0 0 Φ 0 0 12 ([some (.ref 91), some (.int (nI x)), some (.int (nI y)), some (.int (I 91 22)), some (.int (nI (i + 1))), none], [], mk (mj_ui (mj_ui B 113 i (B 104 i)) 104 i v) J) := by
      intro v hv
      refine hk _ ⟨fun k hk2 => ?_, fun k hk2 => ?_, fr_ui (fr_ui i3 (Or.inl rfl)) (Or.inr ⟨rfl, hi⟩)⟩
      · by_cases z : k = i
        · rw [z, ui_s, ui_c (by decide), ui_s, i2 i (Nat.le_refl _)]; exact ⟨rfl, hv⟩
        · rw [ui_c (by decide), ui_k z, ui_k z, ui_c (by decide)]; exact i1 k (by omega)
      · rw [ui_k (by omega), ui_c (by decide)]; exact i2 k (by omega)
    have e5 : (nI i = 5) = (i = 5) := by rw [show (5 : Int32) = nI 5 from rfl, jn_eq (by omega) (by omega)]
    have e0 : (nI i = 0) = (i = 0) := by rw [show (0 : Int32) = nI 0 from rfl, jn_eq (by omega) (by omega)]
    simp only [e5, e0]
    split
    · rename_i z
      try simp (disch := omega) only [jn_in, jn_cl, gd_dec, jn_succ]
      exact go _ (by rw [i2 i (Nat.le_refl _), z, ← lv7_at (g := I 104) (k := 5) (by decide)]; rfl)
    · rename_i z
      split
      · rename_i z2
        try simp (disch := omega) only [jn_in, jn_cl, gd_dec, jn_succ]
        exact go _ (by rw [z2]; rfl)
      · rename_i z2
        try simp (disch := omega) only [jn_in, jn_cl, gd_dec, jn_succ]
        exact go _ (by unfold cdV; rw [if_neg z2, if_neg z])
  · refine bX12_duelOf_12 hd (nI x) (nI y) (I 91 22) (nI 7) B J ?_
    rw [if_neg (by decide)]
    obtain ⟨i1, i2, i3⟩ := hI
    refine lp_inv (σ := Nat → Nat → Int32) (n := 12) (G := fun i E => mj_G Ω l false mX12_duelOf d 0 0 Φ 0 0 75 ([some (.ref 91), some (.int (nI x)), some (.int (nI y)), some (.int (I 91 22)), some (.int (nI i)), none], [], mk E J)) (fun i E => kpP B 105 114 0 0 i E) (fun i E hi hI hk => ?_) (fun E hE => ?_) 12 0 B (by omega) kpP_0
    · refine bX12_duelOf_75 hd (nI x) (nI y) (I 91 22) (nI i) E J ?_
      rw [if_pos (show nI i < (12 : Int32) by rw [show (12 : Int32) = nI 12 from rfl, jn_lt (by omega) (by omega)]; exact hi)]
      simp (disch := omega) only [jn_in, jn_cl, gd_dec, jn_succ]
      have := kpP_up (by decide) hI
      rw [Nat.zero_add] at this
      exact hk _ this
    · refine bX12_duelOf_75 hd (nI x) (nI y) (I 91 22) (nI 12) E J ?_
      rw [if_neg (by decide)]
      have hW : fr (fun c k => c = 91 ∧ k = 22) E (mj_ui E 91 22 2) := fr_ui fr_rf ⟨rfl, rfl⟩
      have w22 : (mj_ui E 91 22 2) 91 22 = 2 := ui_s
      generalize mj_ui E 91 22 2 = W at hW w22 ⊢
      refine lp_inv (σ := Nat → Nat → Int32) (n := 2) (G := fun i X => mj_G Ω l false mX12_duelOf d 0 0 Φ 0 0 110 ([some (.ref 91), some (.int (nI x)), some (.int (nI y)), some (.int (I 91 22)), some (.int (nI i)), none], [], mk X J)) (fun i X => (∀ b, b < i → X 105 (6 * b) = nI b ∧ X 105 (6 * b + 1) = 9 ∧ X 105 (6 * b + 2) = 0 ∧ X 105 (6 * b + 3) = 2 ∧ X 105 (6 * b + 4) = 5 ∧ X 105 (6 * b + 5) = (if b = 0 then nI x else nI y)) ∧ fr (fun c k => c = 105 ∧ k < 12) W X) (fun i X hi hX hk => ?_) (fun X hX => ?_) 2 0 W (by omega) ⟨fun b hb => absurd hb (Nat.not_lt_zero b), fr_rf⟩
      · refine bX12_duelOf_110 hd (nI x) (nI y) (I 91 22) (nI i) X J ?_
        rw [if_pos (show nI i < (2 : Int32) by rw [show (2 : Int32) = nI 2 from rfl, jn_lt (by omega) (by omega)]; exact hi)]
        simp (disch := omega) only [jn_in, jn_cl, gd_dec, jn_succ, n6_0, n6_1, n6_2, n6_3, n6_4, n6_5]
        have go : ∀ v : Int32, v = (if i = 0 then nI x else nI y) → mj_G Ω l false mX12_duelOf d 0 0 Φ 0 0 110 ([some (.ref 91), some (.int (nI x)), some (.int (nI y)), some (.int (I 91 22)), some (.int (nI (i + 1))), none], [], mk (mj_ui (mj_ui (mj_ui (mj_ui (mj_ui (mj_ui X 105 (6 * i) (nI i)) 105 (6 * i + 1) 9) 105 (6 * i + 2) 0) 105 (6 * i + 3) 2) 105 (6 * i + 4) 5) 105 (6 * i + 5) v) J) := by
          intro v hv
          refine hk _ ⟨fun b hb => ?_, fr_ui (fr_ui (fr_ui (fr_ui (fr_ui (fr_ui hX.2 ⟨rfl, by omega⟩) ⟨rfl, by omega⟩) ⟨rfl, by omega⟩) ⟨rfl, by omega⟩) ⟨rfl, by omega⟩) ⟨rfl, by omega⟩⟩
          by_cases z : b = i
          · subst z
            refine ⟨?_, ?_, ?_, ?_, ?_, by rw [ui_s, hv]⟩
            · rw [ui_k (by omega), ui_k (by omega), ui_k (by omega), ui_k (by omega), ui_k (by omega), ui_s]
            · rw [ui_k (by omega), ui_k (by omega), ui_k (by omega), ui_k (by omega), ui_s]
            · rw [ui_k (by omega), ui_k (by omega), ui_k (by omega), ui_s]
            · rw [ui_k (by omega), ui_k (by omega), ui_s]
            · rw [ui_k (by omega), ui_s]
          · have q : ∀ j, j < 6 → (mj_ui (mj_ui (mj_ui (mj_ui (mj_ui (mj_ui X 105 (6 * i) (nI i)) 105 (6 * i + 1) 9) 105 (6 * i + 2) 0) 105 (6 * i + 3) 2) 105 (6 * i + 4) 5) 105 (6 * i + 5) v) 105 (6 * b + j) = X 105 (6 * b + j) := fun j hj => by
              rw [ui_k (by omega), ui_k (by omega), ui_k (by omega), ui_k (by omega), ui_k (by omega), ui_k (by omega)]
            have q0 := q 0 (by decide)
            rw [Nat.add_zero (6 * b)] at q0
            rw [q0, q 1 (by decide), q 2 (by decide), q 3 (by decide), q 4 (by decide), q 5 (by decide)]
            exact hX.1 b (by omega)
        have e0 : (nI i = 0) = (i = 0) := by rw [show (0 : Int32) = nI 0 from rfl, jn_eq (by omega) (by omega)]
        simp only [e0]
        split
        · rename_i z
          try simp (disch := omega) only [jn_in, jn_cl, gd_dec, jn_succ, n6_0, n6_1, n6_2, n6_3, n6_4, n6_5]
          exact go _ (by rw [if_pos z])
        · rename_i z
          try simp (disch := omega) only [jn_in, jn_cl, gd_dec, jn_succ, n6_0, n6_1, n6_2, n6_3, n6_4, n6_5]
          exact go _ (by rw [if_neg z])
      · refine bX12_duelOf_110 hd (nI x) (nI y) (I 91 22) (nI 2) X J ?_
        rw [if_neg (by decide)]
        have rd : ∀ c k, ¬ (c = 105 ∧ k < 12) → ¬ (c = 91 ∧ k = 22) → ¬ c = 114 → X c k = B c k := fun c k g1 g2 g3 => by
          rw [hX.2 c k g1, hW c k g2, hE.2.2 c k g3]
        refine k211 _ X (by rw [hX.2 91 22 (by (try dsimp only); omega)]; exact w22) (fun k hk => ?_) (fun k hk => ?_) (fun k hk => ?_) (fun k hk => ?_) hX.1 (fun c k w => ?_)
        · rw [rd 104 k (by omega) (by omega) (by omega)]; exact (i1 k hk).2
        · rw [rd 113 k (by omega) (by omega) (by omega)]; exact (i1 k hk).1
        · rw [hX.2 114 k (by (try dsimp only); omega), hW 114 k (by (try dsimp only); omega)]
          have := hE.1 k hk
          rw [Nat.zero_add] at this
          rw [this, i3 105 k (by (try dsimp only); omega), ha0.2 105 k (by (try dsimp only); omega)]
        · rw [rd 111 k (by omega) (by omega) (by omega), i3 111 k (by (try dsimp only); omega)]; exact ha0.1 k hk
        · try dsimp only at w
          rw [rd c k (by omega) (by omega) (by omega), i3 c k (by (try dsimp only); omega), ha0.2 c k (by (try dsimp only); omega)]
theorem sdX12_duelOf : mj_Sd mX12_duelOf 10 tX12_duelOf := by
  intro Ω l d hd as M Φ h
  unfold tX12_duelOf at h
  split at h
  · rename_i z_this x_ y_
    obtain ⟨⟨rfl, hM⟩, x, rfl, y, rfl, m, R, hp, h⟩ := h
    rw [mj_isk_of hM]
    exact mnX12_duelOf hd x y m R _ _ hp (by
      rw [mj_isk_of hM] at h
      exact h)
  · exact h.elim
