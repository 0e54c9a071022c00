/-! ===== where, near, row, hold, keeps, flag, ahead: the reference (by program, wip/whole/p54.py) ===== -/
theorem w01 {w : Int32} (h0 : ¬ w < 0) (h1 : ¬ 1 < w) : w = 0 ∨ w = 1 := by
  rw [Int32.lt_iff_toInt_lt, i_0] at h0
  rw [Int32.lt_iff_toInt_lt, i_1] at h1
  have : w.toInt = 0 ∨ w.toInt = 1 := by omega
  rcases this with q | q
  · exact Or.inl (Int32.toInt_inj.mp q)
  · exact Or.inr (Int32.toInt_inj.mp q)
theorem w01n {w : Int32} (h : w < 0 ∨ 1 < w) : ¬ (w = 0 ∨ w = 1) := by
  intro q
  rcases q with rfl | rfl <;> revert h <;> decide
def csX12_where : List (Nat × Nat × Nat × mj_PT) := [(214, 1, 3, tX12_in), (306, 0, 2, mj_rcv 12 tX12_isBoat), (394, 0, 5, mj_rcv 12 tX12_bestCell)]
theorem csX12_where_ok : mj_Cs mX12_where 12 csX12_where := (mj_CsS (D' := 1) sdX12_in (Nat.le_of_ble_eq_true rfl) fX12_in sX12_in (by decide +kernel) l12_214 (mj_CsV (D' := 2) (ci := 12) (q := (RX12, TX12, 45)) sdX12_isBoat (Nat.le_of_ble_eq_true rfl) fX12_isBoat rfl rfl iX12_isBoat vX12_isBoat (by decide +kernel) l12_306 (mj_CsV (D' := 11) (ci := 12) (q := (RX12, TX12, 45)) sdX12_bestCell (Nat.le_of_ble_eq_true rfl) fX12_bestCell rfl rfl iX12_bestCell vX12_bestCell (by decide +kernel) l12_394 mj_Cs0)))
def cutX12_where : List (Nat × List Bool) := []
set_option maxRecDepth 100000 in
set_option maxHeartbeats 4000000 in
theorem inX12_where {Ω : mj_Om} {l : Launch} {d : Nat} {Φ : Option Value → mj_M → Prop} (hd : 12 ≤ d) (b : Int32) (w : Int32) (I : Nat → Nat → Int32) (J : Nat → Nat → Int64)
    (h : ((if b < (0 : Int32) then (Φ (some (.int (-1000000 : Int32))) (mk I J)) else (if ((I 91 22) - (1 : Int32)) < b then (Φ (some (.int (-1000000 : Int32))) (mk I J)) else (if w < (0 : Int32) then (Φ (some (.int (-1000000 : Int32))) (mk I J)) else (if (1 : Int32) < w then (Φ (some (.int (-1000000 : Int32))) (mk I J)) else ((91 = 91 ∧ mj_isk (mk I J)) ∧ (∃ b551 : Nat, b = nI b551 ∧ (∃ y552 : Nat, (I 104 0) = nI y552 ∧ (∃ m553 : Nat, (∃ R554 : RF, ((qM I m553 R554 ∧ b551 < nM I ∧ (((0 : Int32) = 0 ∧ y552 = ((lv7 (I 104)) 0).toNatClampNeg) ∨ ((0 : Int32) = 1 ∧ y552 = 20)) ∧ (w = 0 ∨ w = 1)) ∧ (∀ I555 : Nat → Nat → Int32, (fr Scr I I555) → (Φ (some (.int (if (0 : Int32) = 0 then whereR (nM I) (lv7 (I 104)) R554 (VM I) (I 106 48) (nI b551) w else nearR (nM I) (lv7 (I 104)) R554 (VM I) (I 106 48) (nI b551) w))) (mk I555 J))))))))))))))) :
    mj_Met Ω l false mX12_where d 0 0 [.ref 91, .int b, .int w] (mk I J) Φ := mj_entry (by decide) rfl (fun h => (by cases h)) (Nat.le_of_ble_eq_true rfl) (mj_blk (μ := mX12_where) (P := pX12_where) (cut := cutX12_where) (cs := csX12_where) dX12_where csX12_where_ok hd 22 0 _ h)
def tX12_where : mj_PT := fun as M Φ => match as with
  | [.ref this, .int b, .int w] => ((this = 91 ∧ mj_isk M) ∧ (∃ m : Nat, (∃ R : RF, ((qM M.2.2.1 m R) ∧ (∀ I1 : Nat → Nat → Int32, (fr Scr M.2.2.1 I1) → Φ (some (.int (whereR (nM M.2.2.1) (lv7 (M.2.2.1 104)) R (VM M.2.2.1) (M.2.2.1 106 48) b w))) (M.1, M.2.1, I1, M.2.2.2))))))
  | _ => False
theorem mnX12_where {Ω : mj_Om} {l : Launch} {d : Nat} {Φ : Option Value → mj_M → Prop} (hd : 12 ≤ d) (b : Int32) (w : Int32) (m : Nat) (R : RF) (I : Nat → Nat → Int32) (J : Nat → Nat → Int64) (hp : qM I m R) (h : ∀ I1 : Nat → Nat → Int32, (fr Scr I I1) → Φ (some (.int (whereR (nM I) (lv7 (I 104)) R (VM I) (I 106 48) b w))) (mk I1 J)) : mj_Met Ω l false mX12_where d 0 0 [.ref 91, .int b, .int w] (mk I J) Φ := by
  refine inX12_where hd b w I J ?_
  obtain ⟨⟨hc, hn⟩, hR, hFF, h25, h26⟩ := id hp
  have hH : ¬ (okBN (nM I) b ∧ (w = 0 ∨ w = 1)) → Φ (some (.int (-1000000))) (mk I J) := fun q => by
    have := h I fr_rf
    unfold whereR at this
    rwa [cif_f q] at this
  by_cases hb0 : b < 0
  · rw [if_pos hb0]; exact hH (fun w => ((in_n hn).mpr w.1).1 hb0)
  rw [if_neg hb0, hc]
  by_cases hb1 : nI (nM I) - 1 < b
  · rw [if_pos hb1]; exact hH (fun w => ((in_n hn).mpr w.1).2 hb1)
  rw [if_neg hb1]
  have hok := (in_n hn).mp ⟨hb0, hb1⟩
  obtain ⟨k, hk, rfl⟩ := okB_of hb0 hok.2 hn
  have hF := hFF (by omega)
  by_cases w0 : w < 0
  · rw [if_pos w0]; exact hH (fun z => w01n (Or.inl w0) z.2)
  rw [if_neg w0]
  by_cases w1 : 1 < w
  · rw [if_pos w1]; exact hH (fun z => w01n (Or.inr w1) z.2)
  rw [if_neg w1]
  have hw := w01 w0 w1
  have l0 := hF.1.1
  have e0 : I 104 0 = nI (lv7 (I 104) 0).toNatClampNeg := by rw [← lv7_at (g := I 104) (by decide)]; exact jn_of (by rw [Int32.le_iff_toInt_le, i_0]; omega)
  refine ⟨⟨by trivial, mj_isk_mk _ _⟩, k, rfl, _, e0, m, R, ⟨hp, hk, Or.inl ⟨rfl, rfl⟩, hw⟩, fun I2 h2 => ?_⟩
  rw [if_pos (by trivial)]
  exact h I2 h2
theorem sdX12_where : mj_Sd mX12_where 12 tX12_where := by
  intro Ω l d hd as M Φ h
  unfold tX12_where at h
  split at h
  · rename_i z_this b w
    obtain ⟨⟨rfl, hM⟩, m, R, hp, h⟩ := h
    rw [mj_isk_of hM]
    exact mnX12_where hd b w m R _ _ hp (by
      rw [mj_isk_of hM] at h
      exact h)
  · exact h.elim
def csX12_near : List (Nat × Nat × Nat × mj_PT) := [(214, 1, 3, tX12_in), (306, 0, 2, mj_rcv 12 tX12_isBoat), (394, 0, 5, mj_rcv 12 tX12_bestCell)]
theorem csX12_near_ok : mj_Cs mX12_near 12 csX12_near := (mj_CsS (D' := 1) sdX12_in (Nat.le_of_ble_eq_true rfl) fX12_in sX12_in (by decide +kernel) l12_214 (mj_CsV (D' := 2) (ci := 12) (q := (RX12, TX12, 45)) sdX12_isBoat (Nat.le_of_ble_eq_true rfl) fX12_isBoat rfl rfl iX12_isBoat vX12_isBoat (by decide +kernel) l12_306 (mj_CsV (D' := 11) (ci := 12) (q := (RX12, TX12, 45)) sdX12_bestCell (Nat.le_of_ble_eq_true rfl) fX12_bestCell rfl rfl iX12_bestCell vX12_bestCell (by decide +kernel) l12_394 mj_Cs0)))
def cutX12_near : List (Nat × List Bool) := []
set_option maxRecDepth 100000 in
set_option maxHeartbeats 4000000 in
theorem inX12_near {Ω : mj_Om} {l : Launch} {d : Nat} {Φ : Option Value → mj_M → Prop} (hd : 12 ≤ d) (b : Int32) (w : Int32) (I : Nat → Nat → Int32) (J : Nat → Nat → Int64)
    (h : ((if b < (0 : Int32) then (Φ (some (.int (-1000000 : Int32))) (mk I J)) else (if ((I 91 22) - (1 : Int32)) < b then (Φ (some (.int (-1000000 : Int32))) (mk I J)) else (if w < (0 : Int32) then (Φ (some (.int (-1000000 : Int32))) (mk I J)) else (if (1 : Int32) < w then (Φ (some (.int (-1000000 : Int32))) (mk I J)) else ((91 = 91 ∧ mj_isk (mk I J)) ∧ (∃ b563 : Nat, b = nI b563 ∧ (∃ y564 : Nat, (20 : Int32) = nI y564 ∧ (∃ m565 : Nat, (∃ R566 : RF, ((qM I m565 R566 ∧ b563 < nM I ∧ (((1 : Int32) = 0 ∧ y564 = ((lv7 (I 104)) 0).toNatClampNeg) ∨ ((1 : Int32) = 1 ∧ y564 = 20)) ∧ (w = 0 ∨ w = 1)) ∧ (∀ I567 : Nat → Nat → Int32, (fr Scr I I567) → (Φ (some (.int (if (1 : Int32) = 0 then whereR (nM I) (lv7 (I 104)) R566 (VM I) (I 106 48) (nI b563) w else nearR (nM I) (lv7 (I 104)) R566 (VM I) (I 106 48) (nI b563) w))) (mk I567 J))))))))))))))) :
    mj_Met Ω l false mX12_near d 0 0 [.ref 91, .int b, .int w] (mk I J) Φ := mj_entry (by decide) rfl (fun h => (by cases h)) (Nat.le_of_ble_eq_true rfl) (mj_blk (μ := mX12_near) (P := pX12_near) (cut := cutX12_near) (cs := csX12_near) dX12_near csX12_near_ok hd 19 0 _ h)
def tX12_near : mj_PT := fun as M Φ => match as with
  | [.ref this, .int b, .int w] => ((this = 91 ∧ mj_isk M) ∧ (∃ m : Nat, (∃ R : RF, ((qM M.2.2.1 m R) ∧ (∀ I1 : Nat → Nat → Int32, (fr Scr M.2.2.1 I1) → Φ (some (.int (nearR (nM M.2.2.1) (lv7 (M.2.2.1 104)) R (VM M.2.2.1) (M.2.2.1 106 48) b w))) (M.1, M.2.1, I1, M.2.2.2))))))
  | _ => False
theorem mnX12_near {Ω : mj_Om} {l : Launch} {d : Nat} {Φ : Option Value → mj_M → Prop} (hd : 12 ≤ d) (b : Int32) (w : Int32) (m : Nat) (R : RF) (I : Nat → Nat → Int32) (J : Nat → Nat → Int64) (hp : qM I m R) (h : ∀ I1 : Nat → Nat → Int32, (fr Scr I I1) → Φ (some (.int (nearR (nM I) (lv7 (I 104)) R (VM I) (I 106 48) b w))) (mk I1 J)) : mj_Met Ω l false mX12_near d 0 0 [.ref 91, .int b, .int w] (mk I J) Φ := by
  refine inX12_near hd b w I J ?_
  obtain ⟨⟨hc, hn⟩, hR, hFF, h25, h26⟩ := id hp
  have hH : ¬ (okBN (nM I) b ∧ (w = 0 ∨ w = 1)) → Φ (some (.int (-1000000))) (mk I J) := fun q => by
    have := h I fr_rf
    unfold nearR at this
    rwa [cif_f q] at this
  by_cases hb0 : b < 0
  · rw [if_pos hb0]; exact hH (fun w => ((in_n hn).mpr w.1).1 hb0)
  rw [if_neg hb0, hc]
  by_cases hb1 : nI (nM I) - 1 < b
  · rw [if_pos hb1]; exact hH (fun w => ((in_n hn).mpr w.1).2 hb1)
  rw [if_neg hb1]
  have hok := (in_n hn).mp ⟨hb0, hb1⟩
  obtain ⟨k, hk, rfl⟩ := okB_of hb0 hok.2 hn
  have hF := hFF (by omega)
  by_cases w0 : w < 0
  · rw [if_pos w0]; exact hH (fun z => w01n (Or.inl w0) z.2)
  rw [if_neg w0]
  by_cases w1 : 1 < w
  · rw [if_pos w1]; exact hH (fun z => w01n (Or.inr w1) z.2)
  rw [if_neg w1]
  have hw := w01 w0 w1
  refine ⟨⟨by trivial, mj_isk_mk _ _⟩, k, rfl, 20, rfl, m, R, ⟨hp, hk, Or.inr ⟨rfl, rfl⟩, hw⟩, fun I2 h2 => ?_⟩
  rw [if_neg (by decide)]
  exact h I2 h2
theorem sdX12_near : mj_Sd mX12_near 12 tX12_near := by
  intro Ω l d hd as M Φ h
  unfold tX12_near at h
  split at h
  · rename_i z_this b w
    obtain ⟨⟨rfl, hM⟩, m, R, hp, h⟩ := h
    rw [mj_isk_of hM]
    exact mnX12_near hd b w m R _ _ hp (by
      rw [mj_isk_of hM] at h
      exact h)
  · exact h.elim
def csX12_row : List (Nat × Nat × Nat × mj_PT) := [(214, 1, 3, tX12_in), (274, 0, 4, mj_rcv 12 tX12_put_), (283, 0, 3, mj_rcv 12 tX12_of), (289, 0, 3, mj_rcv 12 tX12_isHeld), (306, 0, 2, mj_rcv 12 tX12_isBoat), (382, 0, 1, mj_rcv 12 tX12_putAside), (391, 0, 2, mj_rcv 12 tX12_scoreAtGun)]
theorem csX12_row_ok : mj_Cs mX12_row 11 csX12_row := (mj_CsS (D' := 1) sdX12_in (Nat.le_of_ble_eq_true rfl) fX12_in sX12_in (by decide +kernel) l12_214 (mj_CsV (D' := 1) (ci := 12) (q := (RX12, TX12, 45)) sdX12_put_ (Nat.le_of_ble_eq_true rfl) fX12_put_ rfl rfl iX12_put_ vX12_put_ (by decide +kernel) l12_274 (mj_CsV (D' := 1) (ci := 12) (q := (RX12, TX12, 45)) sdX12_of (Nat.le_of_ble_eq_true rfl) fX12_of rfl rfl iX12_of vX12_of (by decide +kernel) l12_283 (mj_CsV (D' := 2) (ci := 12) (q := (RX12, TX12, 45)) sdX12_isHeld (Nat.le_of_ble_eq_true rfl) fX12_isHeld rfl rfl iX12_isHeld vX12_isHeld (by decide +kernel) l12_289 (mj_CsV (D' := 2) (ci := 12) (q := (RX12, TX12, 45)) sdX12_isBoat (Nat.le_of_ble_eq_true rfl) fX12_isBoat rfl rfl iX12_isBoat vX12_isBoat (by decide +kernel) l12_306 (mj_CsV (D' := 1) (ci := 12) (q := (RX12, TX12, 45)) sdX12_putAside (Nat.le_of_ble_eq_true rfl) fX12_putAside rfl rfl iX12_putAside vX12_putAside (by decide +kernel) l12_382 (mj_CsV (D' := 10) (ci := 12) (q := (RX12, TX12, 45)) sdX12_scoreAtGun (Nat.le_of_ble_eq_true rfl) fX12_scoreAtGun rfl rfl iX12_scoreAtGun vX12_scoreAtGun (by decide +kernel) l12_391 mj_Cs0)))))))
def cutX12_row : List (Nat × List Bool) := []
set_option maxRecDepth 100000 in
set_option maxHeartbeats 4000000 in
theorem inX12_row {Ω : mj_Om} {l : Launch} {d : Nat} {Φ : Option Value → mj_M → Prop} (hd : 11 ≤ d) (b : Int32) (y : Int32) (I : Nat → Nat → Int32) (J : Nat → Nat → Int64)
    (h : ((if b < (0 : Int32) then (Φ (some (.int (-1000000 : Int32))) (mk I J)) else (if ((I 91 22) - (1 : Int32)) < b then (Φ (some (.int (-1000000 : Int32))) (mk I J)) else (if y < (1 : Int32) then (Φ (some (.int (-1000000 : Int32))) (mk I J)) else (if (9 : Int32) < y then (Φ (some (.int (-1000000 : Int32))) (mk I J)) else (mj_gd (mj_inB (((6 : Int32) * b) + (0 : Int32)) 49) (mj_gd (mj_inB (((6 : Int32) * b) + (1 : Int32)) 49) ((91 = 91 ∧ mj_isk (mk I J)) ∧ ((okM I) ∧ (if (b2i (held (nM I) (VM I) (I 106 ((((6 : Int32) * b) + (0 : Int32))).toNatClampNeg) ((I 106 ((((6 : Int32) * b) + (1 : Int32))).toNatClampNeg) + y))) = (0 : Int32) then ((91 = 91 ∧ mj_isk (mk I J)) ∧ (∀ I577 : Nat → Nat → Int32, (kpP I 106 111 0 0 49 I577) → (mj_gd (mj_inB (((6 : Int32) * b) + (1 : Int32)) 49) (mj_gd (mj_inB (((6 : Int32) * b) + (1 : Int32)) 49) ((91 = 91 ∧ mj_isk (mk (mj_ui I577 106 ((((6 : Int32) * b) + (1 : Int32))).toNatClampNeg ((I577 106 ((((6 : Int32) * b) + (1 : Int32))).toNatClampNeg) + y)) J)) ∧ (∃ b579 : Nat, b = nI b579 ∧ (∃ u580 : Int, (∃ m581 : Nat, (∃ R582 : RF, ((u580 ≤ 1000 ∧ FM u580 (mj_ui I577 106 ((((6 : Int32) * b) + (1 : Int32))).toNatClampNeg ((I577 106 ((((6 : Int32) * b) + (1 : Int32))).toNatClampNeg) + y)) ∧ RuM (mj_ui I577 106 ((((6 : Int32) * b) + (1 : Int32))).toNatClampNeg ((I577 106 ((((6 : Int32) * b) + (1 : Int32))).toNatClampNeg) + y)) m581 R582 ∧ hOk (nM (mj_ui I577 106 ((((6 : Int32) * b) + (1 : Int32))).toNatClampNeg ((I577 106 ((((6 : Int32) * b) + (1 : Int32))).toNatClampNeg) + y))) ((mj_ui I577 106 ((((6 : Int32) * b) + (1 : Int32))).toNatClampNeg ((I577 106 ((((6 : Int32) * b) + (1 : Int32))).toNatClampNeg) + y)) 91 25) ∧ b579 < nM (mj_ui I577 106 ((((6 : Int32) * b) + (1 : Int32))).toNatClampNeg ((I577 106 ((((6 : Int32) * b) + (1 : Int32))).toNatClampNeg) + y))) ∧ (∀ I583 : Nat → Nat → Int32, ((∀ k, k < 49 → I583 106 k = (mj_ui I577 106 ((((6 : Int32) * b) + (1 : Int32))).toNatClampNeg ((I577 106 ((((6 : Int32) * b) + (1 : Int32))).toNatClampNeg) + y)) 111 k) ∧ I583 91 25 = -1 ∧ I583 91 26 = 0 ∧ fr (fun c k => c = 100 ∨ c = 101 ∨ (c = 106 ∧ k < 49) ∨ c = 107 ∨ c = 108 ∨ c = 109 ∨ (c = 91 ∧ (k = 25 ∨ k = 26))) (mj_ui I577 106 ((((6 : Int32) * b) + (1 : Int32))).toNatClampNeg ((I577 106 ((((6 : Int32) * b) + (1 : Int32))).toNatClampNeg) + y)) I583) → (Φ (some (.int (score (nM (mj_ui I577 106 ((((6 : Int32) * b) + (1 : Int32))).toNatClampNeg ((I577 106 ((((6 : Int32) * b) + (1 : Int32))).toNatClampNeg) + y))) (lv7 ((mj_ui I577 106 ((((6 : Int32) * b) + (1 : Int32))).toNatClampNeg ((I577 106 ((((6 : Int32) * b) + (1 : Int32))).toNatClampNeg) + y)) 104)) ((lv7 ((mj_ui I577 106 ((((6 : Int32) * b) + (1 : Int32))).toNatClampNeg ((I577 106 ((((6 : Int32) * b) + (1 : Int32))).toNatClampNeg) + y)) 104)) 6) (gunG (nM (mj_ui I577 106 ((((6 : Int32) * b) + (1 : Int32))).toNatClampNeg ((I577 106 ((((6 : Int32) * b) + (1 : Int32))).toNatClampNeg) + y))) (lv7 ((mj_ui I577 106 ((((6 : Int32) * b) + (1 : Int32))).toNatClampNeg ((I577 106 ((((6 : Int32) * b) + (1 : Int32))).toNatClampNeg) + y)) 104)) R582 ((mj_ui I577 106 ((((6 : Int32) * b) + (1 : Int32))).toNatClampNeg ((I577 106 ((((6 : Int32) * b) + (1 : Int32))).toNatClampNeg) + y)) 91 25) ((lv7 ((mj_ui I577 106 ((((6 : Int32) * b) + (1 : Int32))).toNatClampNeg ((I577 106 ((((6 : Int32) * b) + (1 : Int32))).toNatClampNeg) + y)) 104)) 5 - ((mj_ui I577 106 ((((6 : Int32) * b) + (1 : Int32))).toNatClampNeg ((I577 106 ((((6 : Int32) * b) + (1 : Int32))).toNatClampNeg) + y)) 106 48)).toNatClampNeg ((mj_ui I577 106 ((((6 : Int32) * b) + (1 : Int32))).toNatClampNeg ((I577 106 ((((6 : Int32) * b) + (1 : Int32))).toNatClampNeg) + y)) 91 26) (VM (mj_ui I577 106 ((((6 : Int32) * b) + (1 : Int32))).toNatClampNeg ((I577 106 ((((6 : Int32) * b) + (1 : Int32))).toNatClampNeg) + y))) ((mj_ui I577 106 ((((6 : Int32) * b) + (1 : Int32))).toNatClampNeg ((I577 106 ((((6 : Int32) * b) + (1 : Int32))).toNatClampNeg) + y)) 106 48)) b579))) (mk I583 J))))))))))))) else (Φ (some (.int (-1000000 : Int32))) (mk I J))))))))))))) :
    mj_Met Ω l false mX12_row d 0 0 [.ref 91, .int b, .int y] (mk I J) Φ := mj_entry (by decide) rfl (fun h => (by cases h)) (Nat.le_of_ble_eq_true rfl) (mj_blk (μ := mX12_row) (P := pX12_row) (cut := cutX12_row) (cs := csX12_row) dX12_row csX12_row_ok hd 41 0 _ h)
def tX12_row : mj_PT := fun as M Φ => match as with
  | [.ref this, .int b, .int y] => ((this = 91 ∧ mj_isk M) ∧ (∃ m : Nat, (∃ R : RF, ((qM M.2.2.1 m R) ∧ (∀ I1 : Nat → Nat → Int32, (fr Scr M.2.2.1 I1) → Φ (some (.int (rowR (nM M.2.2.1) (lv7 (M.2.2.1 104)) R (VM M.2.2.1) (M.2.2.1 106 48) b y))) (M.1, M.2.1, I1, M.2.2.2))))))
  | _ => False
set_option maxHeartbeats 4000000 in
theorem mnX12_row {Ω : mj_Om} {l : Launch} {d : Nat} {Φ : Option Value → mj_M → Prop} (hd : 11 ≤ d) (b : Int32) (y : Int32) (m : Nat) (R : RF) (I : Nat → Nat → Int32) (J : Nat → Nat → Int64) (hp : qM I m R) (h : ∀ I1 : Nat → Nat → Int32, (fr Scr I I1) → Φ (some (.int (rowR (nM I) (lv7 (I 104)) R (VM I) (I 106 48) b y))) (mk I1 J)) : mj_Met Ω l false mX12_row d 0 0 [.ref 91, .int b, .int y] (mk I J) Φ := by
  refine inX12_row hd b y I J ?_
  obtain ⟨⟨hc, hn⟩, hR, hFF, h25, h26⟩ := id hp
  have hH : ¬ (okBN (nM I) b ∧ (¬ y < 1 ∧ ¬ 9 < y) ∧ ¬ held (nM I) (VM I) (VM I 0 b.toNatClampNeg) (VM I 1 b.toNatClampNeg + y)) → Φ (some (.int (-1000000))) (mk I J) := fun q => by
    have := h I fr_rf
    unfold rowR at this
    rwa [cif_f q] at this
  by_cases hb0 : b < 0
  · rw [if_pos hb0]; exact hH (fun w => ((in_n hn).mpr w.1).1 hb0)
  rw [if_neg hb0, hc]
  by_cases hb1 : nI (nM I) - 1 < b
  · rw [if_pos hb1]; exact hH (fun w => ((in_n hn).mpr w.1).2 hb1)
  rw [if_neg hb1]
  have hok := (in_n hn).mp ⟨hb0, hb1⟩
  obtain ⟨k, hk, rfl⟩ := okB_of hb0 hok.2 hn
  have hF := hFF (by omega)
  by_cases y0 : y < 1
  · rw [if_pos y0]; exact hH (fun z => z.2.1.1 y0)
  rw [if_neg y0]
  by_cases y1 : 9 < y
  · rw [if_pos y1]; exact hH (fun z => z.2.1.2 y1)
  rw [if_neg y1]
  have hbk := hF.2.2 k hk
  have i9 : (9 : Int32).toInt = 9 := rfl
  have hy : 1 ≤ y.toInt ∧ y.toInt ≤ 9 := by
    rw [Int32.lt_iff_toInt_lt, i_1] at y0
    rw [Int32.lt_iff_toInt_lt, i9] at y1
    omega
  simp (disch := omega) only [jn_in, jn_cl, gd_dec, n6_0, n6_1]
  rw [jn_cl (by omega)] at hH
  rw [← VM_0 (I := I) hk, ← VM_1 (I := I) hk]
  have ey := i_add (x := VM I 1 k) (y := y) (by have := hbk.2.1; have := hF.2.1; have := hF.1.2.2.2.2.2.1; omega)
  have hFx : FOk 40 (nM I) (lv7 (I 104)) (vup (vup (VM I) 0 k (VM I 0 k)) 1 k (VM I 1 k + y)) (I 106 48) := FOk_mv hF hbk.1 (by have := hbk.2.1; omega)
  refine ⟨⟨by trivial, mj_isk_mk _ _⟩, ⟨hc, hn⟩, ?_⟩
  split
  · rename_i z
    rw [b2i_e0] at z
    refine ⟨⟨by trivial, mj_isk_mk _ _⟩, fun A hA => ?_⟩
    have ha := asd_0 hA
    obtain ⟨q1, q2, q3, q4, q5⟩ := qM_a hp ha
    try simp (disch := omega) only [jn_in, jn_cl, gd_dec, n6_0, n6_1]
    rw [← VM_1 (I := A) (b := k) (by omega), q3]
    have hV : VM (mj_ui A 106 (6 * k + 1) (VM I 1 k + y)) = vup (vup (VM I) 0 k (VM I 0 k)) 1 k (VM I 1 k + y) := by
      rw [VMu_1 (by omega), q3, vup_id]
    have hB : fr (fun c k => c = 106 ∧ k < 48) A (mj_ui A 106 (6 * k + 1) (VM I 1 k + y)) := fr_ui fr_rf ⟨rfl, by omega⟩
    generalize mj_ui A 106 (6 * k + 1) (VM I 1 k + y) = B at hV hB ⊢
    obtain ⟨oB, nB, -⟩ := mM_fr hB (by (try dsimp only); omega) q1.1
    have CB : lv7 (B 104) = lv7 (I 104) := by rw [lv7_fr (fun q => hB 104 q (by (try dsimp only); omega)), q4]
    have sB : B 106 48 = I 106 48 := by rw [hB 106 48 (by (try dsimp only); omega), q5]
    have b25 : B 91 25 = -1 := by rw [hB 91 25 (by (try dsimp only); omega)]; exact q1.2.2.2.1
    have b26 : B 91 26 = 0 := by rw [hB 91 26 (by (try dsimp only); omega)]; exact q1.2.2.2.2
    refine ⟨⟨by trivial, mj_isk_mk _ _⟩, k, rfl, 40, m, R, ⟨by decide, ⟨oB, by rw [nB, q2, CB, hV, sB]; exact hFx⟩, RuM_fr q1.2.1 (hB 91 13 (by (try dsimp only); omega)) (fun c q y1 y2 => hB c q (by (try dsimp only); omega)), by rw [b25]; exact Or.inl rfl, by omega⟩, fun D hD => ?_⟩
    rw [nB, q2, CB, hV, sB, b25, b26, gunG_V]
    have hD2 : asd I D := asd_back ha h25 h26 ⟨fun q hq2 => by rw [hD.1 q hq2, hB 111 q (by (try dsimp only); omega)], hD.2.1, hD.2.2.1, fun c q y1 => by
      try dsimp only at y1
      rw [hD.2.2.2 c q (by (try dsimp only); omega), hB c q (by (try dsimp only); omega)]⟩
    have h' := h D (asd_s hD2)
    unfold rowR at h'
    rw [jn_cl (by omega), cif_t ⟨hok, ⟨y0, y1⟩, z⟩] at h'
    exact h'
  · rename_i z
    rw [b2i_e0] at z
    exact hH (fun q => z q.2.2)
theorem sdX12_row : mj_Sd mX12_row 11 tX12_row := by
  intro Ω l d hd as M Φ h
  unfold tX12_row at h
  split at h
  · rename_i z_this b y
    obtain ⟨⟨rfl, hM⟩, m, R, hp, h⟩ := h
    rw [mj_isk_of hM]
    exact mnX12_row hd b y m R _ _ hp (by
      rw [mj_isk_of hM] at h
      exact h)
  · exact h.elim
def csX12_hold : List (Nat × Nat × Nat × mj_PT) := [(214, 1, 3, tX12_in), (306, 0, 2, mj_rcv 12 tX12_isBoat), (323, 0, 1, mj_rcv 12 tX12_leftSeconds), (382, 0, 1, mj_rcv 12 tX12_putAside), (391, 0, 2, mj_rcv 12 tX12_scoreAtGun)]
theorem csX12_hold_ok : mj_Cs mX12_hold 11 csX12_hold := (mj_CsS (D' := 1) sdX12_in (Nat.le_of_ble_eq_true rfl) fX12_in sX12_in (by decide +kernel) l12_214 (mj_CsV (D' := 2) (ci := 12) (q := (RX12, TX12, 45)) sdX12_isBoat (Nat.le_of_ble_eq_true rfl) fX12_isBoat rfl rfl iX12_isBoat vX12_isBoat (by decide +kernel) l12_306 (mj_CsV (D' := 1) (ci := 12) (q := (RX12, TX12, 45)) sdX12_leftSeconds (Nat.le_of_ble_eq_true rfl) fX12_leftSeconds rfl rfl iX12_leftSeconds vX12_leftSeconds (by decide +kernel) l12_323 (mj_CsV (D' := 1) (ci := 12) (q := (RX12, TX12, 45)) sdX12_putAside (Nat.le_of_ble_eq_true rfl) fX12_putAside rfl rfl iX12_putAside vX12_putAside (by decide +kernel) l12_382 (mj_CsV (D' := 10) (ci := 12) (q := (RX12, TX12, 45)) sdX12_scoreAtGun (Nat.le_of_ble_eq_true rfl) fX12_scoreAtGun rfl rfl iX12_scoreAtGun vX12_scoreAtGun (by decide +kernel) l12_391 mj_Cs0)))))
def cutX12_hold : List (Nat × List Bool) := [(39, [true, true, true, true, true, true, true, false])]
set_option maxRecDepth 100000 in
set_option maxHeartbeats 4000000 in
theorem inX12_hold {Ω : mj_Om} {l : Launch} {d : Nat} {Φ : Option Value → mj_M → Prop} (hd : 11 ≤ d) (b : Int32) (w : Int32) (I : Nat → Nat → Int32) (J : Nat → Nat → Int64)
    (h : ((if b < (0 : Int32) then (Φ (some (.int (-1000000 : Int32))) (mk I J)) else (if ((I 91 22) - (1 : Int32)) < b then (Φ (some (.int (-1000000 : Int32))) (mk I J)) else (if w < (0 : Int32) then (Φ (some (.int (-1000000 : Int32))) (mk I J)) else (if (1 : Int32) < w then (Φ (some (.int (-1000000 : Int32))) (mk I J)) else ((91 = 91 ∧ mj_isk (mk I J)) ∧ (∀ I593 : Nat → Nat → Int32, (kpP I 106 111 0 0 49 I593) → (mj_G Ω l false mX12_hold d 0 0 Φ 0 0 39 ([some (.ref 91), some (.int b), some (.int w), some (.int (-1 : Int32)), some (.int (0 : Int32)), some (.int ((I593 104 5) - (I593 106 48))), some (.int (0 : Int32)), none], [], (mk I593 J))))))))))) :
    mj_Met Ω l false mX12_hold d 0 0 [.ref 91, .int b, .int w] (mk I J) Φ := mj_entry (by decide) rfl (fun h => (by cases h)) (Nat.le_of_ble_eq_true rfl) (mj_blk (μ := mX12_hold) (P := pX12_hold) (cut := cutX12_hold) (cs := csX12_hold) dX12_hold csX12_hold_ok hd 54 0 _ h)
set_option maxRecDepth 100000 in
set_option maxHeartbeats 4000000 in
theorem bX12_hold_39 {Ω : mj_Om} {l : Launch} {d : Nat} {Φ : Option Value → mj_M → Prop} (hd : 11 ≤ d) (x1 : Int32) (x2 : Int32) (x3 : Int32) (x4 : Int32) (x5 : Int32) (x6 : Int32) (I : Nat → Nat → Int32) (J : Nat → Nat → Int64)
    (h : ((if x5 < x6 then (if x2 = (0 : Int32) then (Φ (some (.int x3)) (mk I J)) else (Φ (some (.int x4)) (mk I J))) else ((91 = 91 ∧ mj_isk (mk (mj_ui (mj_ui I 91 25 x1) 91 26 x6) J)) ∧ (∃ b595 : Nat, x1 = nI b595 ∧ (∃ u596 : Int, (∃ m597 : Nat, (∃ R598 : RF, ((u596 ≤ 1000 ∧ FM u596 (mj_ui (mj_ui I 91 25 x1) 91 26 x6) ∧ RuM (mj_ui (mj_ui I 91 25 x1) 91 26 x6) m597 R598 ∧ hOk (nM (mj_ui (mj_ui I 91 25 x1) 91 26 x6)) ((mj_ui (mj_ui I 91 25 x1) 91 26 x6) 91 25) ∧ b595 < nM (mj_ui (mj_ui I 91 25 x1) 91 26 x6)) ∧ (∀ I599 : Nat → Nat → Int32, ((∀ k, k < 49 → I599 106 k = (mj_ui (mj_ui I 91 25 x1) 91 26 x6) 111 k) ∧ I599 91 25 = -1 ∧ I599 91 26 = 0 ∧ fr (fun c k => c = 100 ∨ c = 101 ∨ (c = 106 ∧ k < 49) ∨ c = 107 ∨ c = 108 ∨ c = 109 ∨ (c = 91 ∧ (k = 25 ∨ k = 26))) (mj_ui (mj_ui I 91 25 x1) 91 26 x6) I599) → (if x3 = (-1 : Int32) then (mj_G Ω l false mX12_hold d 0 0 Φ 0 0 39 ([some (.ref 91), some (.int x1), some (.int x2), some (.int x6), some (.int (score (nM (mj_ui (mj_ui I 91 25 x1) 91 26 x6)) (lv7 ((mj_ui (mj_ui I 91 25 x1) 91 26 x6) 104)) ((lv7 ((mj_ui (mj_ui I 91 25 x1) 91 26 x6) 104)) 6) (gunG (nM (mj_ui (mj_ui I 91 25 x1) 91 26 x6)) (lv7 ((mj_ui (mj_ui I 91 25 x1) 91 26 x6) 104)) R598 ((mj_ui (mj_ui I 91 25 x1) 91 26 x6) 91 25) ((lv7 ((mj_ui (mj_ui I 91 25 x1) 91 26 x6) 104)) 5 - ((mj_ui (mj_ui I 91 25 x1) 91 26 x6) 106 48)).toNatClampNeg ((mj_ui (mj_ui I 91 25 x1) 91 26 x6) 91 26) (VM (mj_ui (mj_ui I 91 25 x1) 91 26 x6)) ((mj_ui (mj_ui I 91 25 x1) 91 26 x6) 106 48)) b595)), some (.int x5), some (.int (x6 + (1 : Int32))), none], [], (mk I599 J))) else (if x4 < (score (nM (mj_ui (mj_ui I 91 25 x1) 91 26 x6)) (lv7 ((mj_ui (mj_ui I 91 25 x1) 91 26 x6) 104)) ((lv7 ((mj_ui (mj_ui I 91 25 x1) 91 26 x6) 104)) 6) (gunG (nM (mj_ui (mj_ui I 91 25 x1) 91 26 x6)) (lv7 ((mj_ui (mj_ui I 91 25 x1) 91 26 x6) 104)) R598 ((mj_ui (mj_ui I 91 25 x1) 91 26 x6) 91 25) ((lv7 ((mj_ui (mj_ui I 91 25 x1) 91 26 x6) 104)) 5 - ((mj_ui (mj_ui I 91 25 x1) 91 26 x6) 106 48)).toNatClampNeg ((mj_ui (mj_ui I 91 25 x1) 91 26 x6) 91 26) (VM (mj_ui (mj_ui I 91 25 x1) 91 26 x6)) ((mj_ui (mj_ui I 91 25 x1) 91 26 x6) 106 48)) b595) then (mj_G Ω l false mX12_hold d 0 0 Φ 0 0 39 ([some (.ref 91), some (.int x1), some (.int x2), some (.int x6), some (.int (score (nM (mj_ui (mj_ui I 91 25 x1) 91 26 x6)) (lv7 ((mj_ui (mj_ui I 91 25 x1) 91 26 x6) 104)) ((lv7 ((mj_ui (mj_ui I 91 25 x1) 91 26 x6) 104)) 6) (gunG (nM (mj_ui (mj_ui I 91 25 x1) 91 26 x6)) (lv7 ((mj_ui (mj_ui I 91 25 x1) 91 26 x6) 104)) R598 ((mj_ui (mj_ui I 91 25 x1) 91 26 x6) 91 25) ((lv7 ((mj_ui (mj_ui I 91 25 x1) 91 26 x6) 104)) 5 - ((mj_ui (mj_ui I 91 25 x1) 91 26 x6) 106 48)).toNatClampNeg ((mj_ui (mj_ui I 91 25 x1) 91 26 x6) 91 26) (VM (mj_ui (mj_ui I 91 25 x1) 91 26 x6)) ((mj_ui (mj_ui I 91 25 x1) 91 26 x6) 106 48)) b595)), some (.int x5), some (.int (x6 + (1 : Int32))), none], [], (mk I599 J))) else (mj_G Ω l false mX12_hold d 0 0 Φ 0 0 39 ([some (.ref 91), some (.int x1), some (.int x2), some (.int x3), some (.int x4), some (.int x5), some (.int (x6 + (1 : Int32))), none], [], (mk I599 J))))))))))))))) :
    mj_G Ω l false mX12_hold d 0 0 Φ 0 0 39 ([some (.ref 91), some (.int x1), some (.int x2), some (.int x3), some (.int x4), some (.int x5), some (.int x6), none], [], mk I J) := mj_blk (μ := mX12_hold) (P := pX12_hold) (cut := cutX12_hold) (cs := csX12_hold) dX12_hold csX12_hold_ok hd 54 39 _ h
def tX12_hold : mj_PT := fun as M Φ => match as with
  | [.ref this, .int b, .int w] => ((this = 91 ∧ mj_isk M) ∧ (∃ m : Nat, (∃ R : RF, ((qM M.2.2.1 m R) ∧ (∀ I1 : Nat → Nat → Int32, (fr Scr M.2.2.1 I1) → Φ (some (.int (holdR (nM M.2.2.1) (lv7 (M.2.2.1 104)) R (VM M.2.2.1) (M.2.2.1 106 48) b w))) (M.1, M.2.1, I1, M.2.2.2))))))
  | _ => False
set_option maxHeartbeats 8000000 in
theorem mnX12_hold {Ω : mj_Om} {l : Launch} {d : Nat} {Φ : Option Value → mj_M → Prop} (hd : 11 ≤ d) (b : Int32) (w : Int32) (m : Nat) (R : RF) (I : Nat → Nat → Int32) (J : Nat → Nat → Int64) (hp : qM I m R) (h : ∀ I1 : Nat → Nat → Int32, (fr Scr I I1) → Φ (some (.int (holdR (nM I) (lv7 (I 104)) R (VM I) (I 106 48) b w))) (mk I1 J)) : mj_Met Ω l false mX12_hold d 0 0 [.ref 91, .int b, .int w] (mk I J) Φ := by
  refine inX12_hold hd b w I J ?_
  obtain ⟨⟨hc, hn⟩, hR, hFF, h25, h26⟩ := id hp
  have hH : ¬ (okBN (nM I) b ∧ (w = 0 ∨ w = 1)) → Φ (some (.int (-1000000))) (mk I J) := fun q => by
    have := h I fr_rf
    unfold holdR at this
    rwa [cif_f q] at this
  by_cases hb0 : b < 0
  · rw [if_pos hb0]; exact hH (fun w => ((in_n hn).mpr w.1).1 hb0)
  rw [if_neg hb0, hc]
  by_cases hb1 : nI (nM I) - 1 < b
  · rw [if_pos hb1]; exact hH (fun w => ((in_n hn).mpr w.1).2 hb1)
  rw [if_neg hb1]
  have hok := (in_n hn).mp ⟨hb0, hb1⟩
  obtain ⟨k, hk, rfl⟩ := okB_of hb0 hok.2 hn
  have hF := hFF (by omega)
  by_cases w0 : w < 0
  · rw [if_pos w0]; exact hH (fun z => w01n (Or.inl w0) z.2)
  rw [if_neg w0]
  by_cases w1 : 1 < w
  · rw [if_pos w1]; exact hH (fun z => w01n (Or.inr w1) z.2)
  rw [if_neg w1]
  have hw := w01 w0 w1
  have l5 := hF.1.2.2.2.2.2.1
  have hs := hF.2.1
  refine ⟨⟨by trivial, mj_isk_mk _ _⟩, fun A hA => ?_⟩
  have ha0 := asd_0 hA
  have e5 : A 104 5 = lv7 (I 104) 5 := by rw [ha0.2 104 5 (by (try dsimp only); omega), lv7_at (by decide)]
  have e9 : A 106 48 = I 106 48 := ha0.2 106 48 (by (try dsimp only); omega)
  rw [e5, e9]
  have eL := i_sub (x := lv7 (I 104) 5) (y := I 106 48) (by omega)
  have hcl : (lv7 (I 104) 5 - I 106 48).toNatClampNeg = (lv7 (I 104) 5 - I 106 48).toInt.toNat := rfl
  have eLn : lv7 (I 104) 5 - I 106 48 = nI (lv7 (I 104) 5 - I 106 48).toNatClampNeg := jn_of (by rw [Int32.le_iff_toInt_le, i_0]; omega)
  have hS : ∀ v, holdS (nM I) (lv7 (I 104)) R (VM I) (I 106 48) k v = score (nM I) (lv7 (I 104)) (lv7 (I 104) 6) (gunR (nM I) (lv7 (I 104)) R k ((lv7 (I 104) 5 - I 106 48).toNatClampNeg - v) (hldV (nM I) (lv7 (I 104)) R k (VM I) (I 106 48) v) (I 106 48 + nI v)) k := fun v => rfl
  unfold holdR at h
  rw [cif_t ⟨hok, hw⟩, jn_cl (by omega)] at h
  generalize hL : lv7 (I 104) 5 - I 106 48 = L at *
  have key : ∀ (j v : Nat) (x3 x4 : Int32) (I' : Nat → Nat → Int32), v + j = L.toNatClampNeg + 1 → bM (bstN (fun _ => True) (fun v => holdS (nM I) (lv7 (I 104)) R (VM I) (I 106 48) k v) v) x3 x4 → asd I I' → mj_G Ω l false mX12_hold d 0 0 Φ 0 0 39 ([some (.ref 91), some (.int (nI k)), some (.int w), some (.int x3), some (.int x4), some (.int L), some (.int (nI v)), none], [], mk I' J) := by
    intro j
    induction j with
    | zero =>
      intro v x3 x4 I' hv hb2 ha
      refine bX12_hold_39 hd (nI k) w x3 x4 L (nI v) I' J ?_
      rw [if_pos (by rw [eLn, jn_lt (by omega) (by omega)]; omega)]
      have h' := h I' (asd_s ha)
      rw [show v = L.toNatClampNeg + 1 by omega] at hb2
      rw [bM_r hb2] at h'
      have hx3 : ¬ x3 = -1 := by
        intro g
        have hne := bst_some (sc := fun v => holdS (nM I) (lv7 (I 104)) R (VM I) (I 106 48) k v) L.toNatClampNeg
        match hq : bstN (fun _ => True) (fun v => holdS (nM I) (lv7 (I 104)) R (VM I) (I 106 48) k v) (L.toNatClampNeg + 1) with
        | none => exact hne hq
        | some p =>
          rw [hq] at hb2
          exact nI_m1 hb2.2.2 (hb2.1.symm.trans g)
      rw [if_neg hx3] at h'
      split
      · rename_i z2; rw [if_pos z2] at h'; exact h'
      · rename_i z2; rw [if_neg z2] at h'; exact h'
    | succ j ih =>
      intro v x3 x4 I' hv hb2 ha
      refine bX12_hold_39 hd (nI k) w x3 x4 L (nI v) I' J ?_
      rw [if_neg (by rw [eLn, jn_lt (by omega) (by omega)]; omega)]
      obtain ⟨q1, q2, q3, q4, q5⟩ := qM_a hp ha
      have hB : fr (fun c k => c = 91 ∧ (k = 25 ∨ k = 26)) I' (mj_ui (mj_ui I' 91 25 (nI k)) 91 26 (nI v)) := fr_ui (fr_ui fr_rf ⟨rfl, Or.inl rfl⟩) ⟨rfl, Or.inr rfl⟩
      have b25 : (mj_ui (mj_ui I' 91 25 (nI k)) 91 26 (nI v)) 91 25 = nI k := by rw [ui_k (by decide), ui_s]
      have b26 : (mj_ui (mj_ui I' 91 25 (nI k)) 91 26 (nI v)) 91 26 = nI v := ui_s
      generalize mj_ui (mj_ui I' 91 25 (nI k)) 91 26 (nI v) = B at hB b25 b26 ⊢
      obtain ⟨nB, VB, oB⟩ := MM_fr (I := I') (I1 := B) (hB 91 22 (by (try dsimp only); omega)) (fun q => hB 105 q (by (try dsimp only); omega)) (fun q => hB 106 q (by (try dsimp only); omega))
      have CB : lv7 (B 104) = lv7 (I 104) := by rw [lv7_fr (fun q => hB 104 q (by (try dsimp only); omega)), q4]
      have sB : B 106 48 = I 106 48 := by rw [hB 106 48 (by (try dsimp only); omega), q5]
      refine ⟨⟨by trivial, mj_isk_mk _ _⟩, k, rfl, 19, m, R, ⟨by decide, ⟨oB q1.1, by rw [nB, q2, CB, VB, q3, sB]; exact hF⟩, RuM_fr q1.2.1 (hB 91 13 (by (try dsimp only); omega)) (fun c q y1 y2 => hB c q (by (try dsimp only); omega)), by rw [b25, nB, q2]; exact Or.inr ⟨k, hk, rfl⟩, by omega⟩, fun D hD => ?_⟩
      rw [nB, q2, CB, VB, q3, sB, b25, b26, hL, gunG_H (by omega) v L.toNatClampNeg _ _ (by omega) (by omega), ← hS v]
      have hD2 : asd I D := asd_back ha h25 h26 ⟨fun q hq2 => by rw [hD.1 q hq2, hB 111 q (by (try dsimp only); omega)], hD.2.1, hD.2.2.1, fun c q y1 => by
        try dsimp only at y1
        rw [hD.2.2.2 c q (by (try dsimp only); omega), hB c q (by (try dsimp only); omega)]⟩
      rw [jn_succ]
      by_cases z3 : x3 = -1
      · rw [if_pos z3]
        exact ih (v + 1) _ _ D (by omega) (bM_y1 hb2 (by omega) trivial (Or.inl z3)) hD2
      · rw [if_neg z3]
        by_cases z4 : x4 < holdS (nM I) (lv7 (I 104)) R (VM I) (I 106 48) k v
        · rw [if_pos z4]
          exact ih (v + 1) _ _ D (by omega) (bM_y1 hb2 (by omega) trivial (Or.inr z4)) hD2
        · rw [if_neg z4]
          exact ih (v + 1) _ _ D (by omega) (bM_y0 hb2 z3 z4) hD2
  exact key (L.toNatClampNeg + 1) 0 _ _ A (by omega) ⟨rfl, rfl⟩ ha0
theorem sdX12_hold : mj_Sd mX12_hold 11 tX12_hold := by
  intro Ω l d hd as M Φ h
  unfold tX12_hold at h
  split at h
  · rename_i z_this b w
    obtain ⟨⟨rfl, hM⟩, m, R, hp, h⟩ := h
    rw [mj_isk_of hM]
    exact mnX12_hold hd b w m R _ _ hp (by
      rw [mj_isk_of hM] at h
      exact h)
  · exact h.elim
def csX12_keeps : List (Nat × Nat × Nat × mj_PT) := [(306, 0, 2, mj_rcv 12 tX12_isBoat), (323, 0, 1, mj_rcv 12 tX12_leftSeconds), (326, 0, 2, mj_rcv 12 tX12_isLeewardHeld), (367, 0, 1, mj_rcv 12 tX12_pass), (382, 0, 1, mj_rcv 12 tX12_putAside), (388, 0, 1, mj_rcv 12 tX12_takeBack)]
theorem csX12_keeps_ok : mj_Cs mX12_keeps 9 csX12_keeps := (mj_CsV (D' := 2) (ci := 12) (q := (RX12, TX12, 45)) sdX12_isBoat (Nat.le_of_ble_eq_true rfl) fX12_isBoat rfl rfl iX12_isBoat vX12_isBoat (by decide +kernel) l12_306 (mj_CsV (D' := 1) (ci := 12) (q := (RX12, TX12, 45)) sdX12_leftSeconds (Nat.le_of_ble_eq_true rfl) fX12_leftSeconds rfl rfl iX12_leftSeconds vX12_leftSeconds (by decide +kernel) l12_323 (mj_CsV (D' := 3) (ci := 12) (q := (RX12, TX12, 45)) sdX12_isLeewardHeld (Nat.le_of_ble_eq_true rfl) fX12_isLeewardHeld rfl rfl iX12_isLeewardHeld vX12_isLeewardHeld (by decide +kernel) l12_326 (mj_CsV (D' := 8) (ci := 12) (q := (RX12, TX12, 45)) sdX12_pass (Nat.le_of_ble_eq_true rfl) fX12_pass rfl rfl iX12_pass vX12_pass (by decide +kernel) l12_367 (mj_CsV (D' := 1) (ci := 12) (q := (RX12, TX12, 45)) sdX12_putAside (Nat.le_of_ble_eq_true rfl) fX12_putAside rfl rfl iX12_putAside vX12_putAside (by decide +kernel) l12_382 (mj_CsV (D' := 1) (ci := 12) (q := (RX12, TX12, 45)) sdX12_takeBack (Nat.le_of_ble_eq_true rfl) fX12_takeBack rfl rfl iX12_takeBack vX12_takeBack (by decide +kernel) l12_388 mj_Cs0))))))
def cutX12_keeps : List (Nat × List Bool) := [(16, [true, true, true, false]), (41, [true, true, true, false])]
set_option maxRecDepth 100000 in
set_option maxHeartbeats 4000000 in
theorem inX12_keeps {Ω : mj_Om} {l : Launch} {d : Nat} {Φ : Option Value → mj_M → Prop} (hd : 9 ≤ d) (b : Int32) (I : Nat → Nat → Int32) (J : Nat → Nat → Int64)
    (h : ((if b < (0 : Int32) then (Φ (some (.int (-1 : Int32))) (mk I J)) else (if ((I 91 22) - (1 : Int32)) < b then (Φ (some (.int (-1 : Int32))) (mk I J)) else ((91 = 91 ∧ mj_isk (mk I J)) ∧ (∀ I618 : Nat → Nat → Int32, (kpP I 106 111 0 0 49 I618) → (mj_G Ω l false mX12_keeps d 0 0 Φ 0 0 16 ([some (.ref 91), some (.int b), some (.int (0 : Int32)), none], [], (mk I618 J))))))))) :
    mj_Met Ω l false mX12_keeps d 0 0 [.ref 91, .int b] (mk I J) Φ := mj_entry (by decide) rfl (fun h => (by cases h)) (Nat.le_of_ble_eq_true rfl) (mj_blk (μ := mX12_keeps) (P := pX12_keeps) (cut := cutX12_keeps) (cs := csX12_keeps) dX12_keeps csX12_keeps_ok hd 34 0 _ h)
set_option maxRecDepth 100000 in
set_option maxHeartbeats 4000000 in
theorem bX12_keeps_16 {Ω : mj_Om} {l : Launch} {d : Nat} {Φ : Option Value → mj_M → Prop} (hd : 9 ≤ d) (x1 : Int32) (x2 : Int32) (I : Nat → Nat → Int32) (J : Nat → Nat → Int64)
    (h : (((91 = 91 ∧ mj_isk (mk I J)) ∧ (∃ b620 : Nat, x1 = nI b620 ∧ ((okM I ∧ b620 < nM I) ∧ (if (b2i (lee (nM I) (VM I) b620)) = (0 : Int32) then (if (0 : Int32) < ((I 104 5) - (I 106 48)) then ((91 = 91 ∧ mj_isk (mk I J)) ∧ (∃ u623 : Int, (∃ m624 : Nat, (∃ R625 : RF, ((u623 ≤ 1000 ∧ FM u623 I ∧ RuM I m624 R625 ∧ hOk (nM I) (I 91 25)) ∧ (∀ I626 : Nat → Nat → Int32, (VM I626 = passG (nM I) (lv7 (I 104)) R625 (VM I) (I 106 48) (I 91 25) (I 91 26) ∧ I626 106 48 = (I 106 48) + 1 ∧ I626 91 26 = hsF (I 91 25) (I 91 26) ∧ fr (fun c k => c = 100 ∨ c = 101 ∨ (c = 106 ∧ k < 49) ∨ c = 107 ∨ c = 108 ∨ c = 109 ∨ (c = 91 ∧ k = 26)) I I626) → (mj_G Ω l false mX12_keeps d 0 0 Φ 0 0 16 ([some (.ref 91), some (.int x1), some (.int (x2 + (1 : Int32))), none], [], (mk I626 J))))))))) else (mj_G Ω l false mX12_keeps d 0 0 Φ 0 0 41 ([some (.ref 91), some (.int x1), some (.int x2), none], [], (mk I J)))) else (mj_G Ω l false mX12_keeps d 0 0 Φ 0 0 41 ([some (.ref 91), some (.int x1), some (.int x2), none], [], (mk I J))))))))) :
    mj_G Ω l false mX12_keeps d 0 0 Φ 0 0 16 ([some (.ref 91), some (.int x1), some (.int x2), none], [], mk I J) := mj_blk (μ := mX12_keeps) (P := pX12_keeps) (cut := cutX12_keeps) (cs := csX12_keeps) dX12_keeps csX12_keeps_ok hd 34 16 _ h
set_option maxRecDepth 100000 in
set_option maxHeartbeats 4000000 in
theorem bX12_keeps_41 {Ω : mj_Om} {l : Launch} {d : Nat} {Φ : Option Value → mj_M → Prop} (hd : 9 ≤ d) (x1 : Int32) (x2 : Int32) (I : Nat → Nat → Int32) (J : Nat → Nat → Int64)
    (h : (((91 = 91 ∧ mj_isk (mk I J)) ∧ (∃ b628 : Nat, x1 = nI b628 ∧ ((okM I ∧ b628 < nM I) ∧ (if (b2i (lee (nM I) (VM I) b628)) = (0 : Int32) then ((91 = 91 ∧ mj_isk (mk I J)) ∧ (∀ I631 : Nat → Nat → Int32, ((∀ k, k < 49 → I631 106 k = I 111 k) ∧ I631 91 25 = -1 ∧ I631 91 26 = 0 ∧ fr (fun c k => (c = 106 ∧ k < 49) ∨ (c = 91 ∧ (k = 25 ∨ k = 26))) I I631) → (Φ (some (.int (-1 : Int32))) (mk I631 J)))) else ((91 = 91 ∧ mj_isk (mk I J)) ∧ (∀ I633 : Nat → Nat → Int32, ((∀ k, k < 49 → I633 106 k = I 111 k) ∧ I633 91 25 = -1 ∧ I633 91 26 = 0 ∧ fr (fun c k => (c = 106 ∧ k < 49) ∨ (c = 91 ∧ (k = 25 ∨ k = 26))) I I633) → (Φ (some (.int x2)) (mk I633 J)))))))))) :
    mj_G Ω l false mX12_keeps d 0 0 Φ 0 0 41 ([some (.ref 91), some (.int x1), some (.int x2), none], [], mk I J) := mj_blk (μ := mX12_keeps) (P := pX12_keeps) (cut := cutX12_keeps) (cs := csX12_keeps) dX12_keeps csX12_keeps_ok hd 34 41 _ h
def tX12_keeps : mj_PT := fun as M Φ => match as with
  | [.ref this, .int b] => ((this = 91 ∧ mj_isk M) ∧ (∃ m : Nat, (∃ R : RF, ((qM M.2.2.1 m R) ∧ (∀ I1 : Nat → Nat → Int32, (fr Scr M.2.2.1 I1) → Φ (some (.int (keepsR (nM M.2.2.1) (lv7 (M.2.2.1 104)) R (VM M.2.2.1) (M.2.2.1 106 48) b))) (M.1, M.2.1, I1, M.2.2.2))))))
  | _ => False
set_option maxHeartbeats 8000000 in
theorem mnX12_keeps {Ω : mj_Om} {l : Launch} {d : Nat} {Φ : Option Value → mj_M → Prop} (hd : 9 ≤ d) (b : Int32) (m : Nat) (R : RF) (I : Nat → Nat → Int32) (J : Nat → Nat → Int64) (hp : qM I m R) (h : ∀ I1 : Nat → Nat → Int32, (fr Scr I I1) → Φ (some (.int (keepsR (nM I) (lv7 (I 104)) R (VM I) (I 106 48) b))) (mk I1 J)) : mj_Met Ω l false mX12_keeps d 0 0 [.ref 91, .int b] (mk I J) Φ := by
  refine inX12_keeps hd b I J ?_
  obtain ⟨⟨hc, hn⟩, hR, hFF, h25, h26⟩ := id hp
  have hH : ¬ (okBN (nM I) b) → Φ (some (.int (-1))) (mk I J) := fun q => by
    have := h I fr_rf
    unfold keepsR at this
    rwa [cif_f q] at this
  by_cases hb0 : b < 0
  · rw [if_pos hb0]; exact hH (fun w => ((in_n hn).mpr w).1 hb0)
  rw [if_neg hb0, hc]
  by_cases hb1 : nI (nM I) - 1 < b
  · rw [if_pos hb1]; exact hH (fun w => ((in_n hn).mpr w).2 hb1)
  rw [if_neg hb1]
  have hok := (in_n hn).mp ⟨hb0, hb1⟩
  obtain ⟨k, hk, rfl⟩ := okB_of hb0 hok.2 hn
  have hF := hFF (by omega)
  have l5 := hF.1.2.2.2.2.2.1
  have hs := hF.2.1
  refine ⟨⟨by trivial, mj_isk_mk _ _⟩, fun A hA => ?_⟩
  have ha0 := asd_0 hA
  have eL := i_sub (x := lv7 (I 104) 5) (y := I 106 48) (by omega)
  have hcl : (lv7 (I 104) 5 - I 106 48).toNatClampNeg = (lv7 (I 104) 5 - I 106 48).toInt.toNat := rfl
  unfold keepsR at h
  rw [cif_t hok, jn_cl (by omega)] at h
  generalize hL : (lv7 (I 104) 5 - I 106 48).toNatClampNeg = L at *
  have k41 : ∀ (g : Nat) (I' : Nat → Nat → Int32) (r : Int32), okM I' → nM I' = nM I → fr (fun c k => c = 100 ∨ c = 101 ∨ (c = 106 ∧ k < 49) ∨ c = 107 ∨ c = 108 ∨ c = 109 ∨ (c = 91 ∧ (k = 25 ∨ k = 26))) A I' → (lee (nM I) (VM I') k → r = nI g) → (¬ lee (nM I) (VM I') k → r = -1) → (∀ I1, fr Scr I I1 → Φ (some (.int r)) (mk I1 J)) → mj_G Ω l false mX12_keeps d 0 0 Φ 0 0 41 ([some (.ref 91), some (.int (nI k)), some (.int (nI g)), none], [], mk I' J) := by
    intro g I' r o2 n2 hfr r1 r0 hend
    refine bX12_keeps_41 hd (nI k) (nI g) I' J ?_
    refine ⟨⟨by trivial, mj_isk_mk _ _⟩, k, rfl, ⟨o2, by omega⟩, ?_⟩
    rw [n2]
    have fin : ∀ D : Nat → Nat → Int32, ((∀ k, k < 49 → D 106 k = I' 111 k) ∧ D 91 25 = -1 ∧ D 91 26 = 0 ∧ fr (fun c k => (c = 106 ∧ k < 49) ∨ (c = 91 ∧ (k = 25 ∨ k = 26))) I' D) → fr Scr I D := by
      intro D hD
      refine asd_s (asd_back ha0 h25 h26 ⟨fun q hq2 => by rw [hD.1 q hq2, hfr 111 q (by (try dsimp only); omega)], hD.2.1, hD.2.2.1, fun c q y1 => ?_⟩)
      try dsimp only at y1
      rw [hD.2.2.2 c q (by (try dsimp only); omega), hfr c q (by (try dsimp only); omega)]
    split
    · rename_i z
      rw [b2i_e0] at z
      refine ⟨⟨by trivial, mj_isk_mk _ _⟩, fun D hD => ?_⟩
      have := hend D (fin D hD)
      rwa [r0 z] at this
    · rename_i z
      rw [b2i_e0] at z
      refine ⟨⟨by trivial, mj_isk_mk _ _⟩, fun D hD => ?_⟩
      have := hend D (fin D hD)
      rwa [r1 (Classical.not_not.mp z)] at this
  have key : ∀ (j g : Nat) (I' : Nat → Nat → Int32), g + j = L → okM I' → nM I' = nM I → VM I' = aftV (nM I) (lv7 (I 104)) R (VM I) (I 106 48) g → I' 106 48 = I 106 48 + nI g → fr (fun c k => c = 100 ∨ c = 101 ∨ (c = 106 ∧ k < 49) ∨ c = 107 ∨ c = 108 ∨ c = 109 ∨ (c = 91 ∧ k = 26)) A I' → (∀ I1, fr Scr I I1 → Φ (some (.int (fstN (fun q => lee (nM I) (aftV (nM I) (lv7 (I 104)) R (VM I) (I 106 48) q) k) g (j + 1)))) (mk I1 J)) → mj_G Ω l false mX12_keeps d 0 0 Φ 0 0 16 ([some (.ref 91), some (.int (nI k)), some (.int (nI g)), none], [], mk I' J) := by
    intro j
    induction j with
    | zero =>
      intro g I' hg o2 n2 V2 s2 hfr h
      refine bX12_keeps_16 hd (nI k) (nI g) I' J ?_
      refine ⟨⟨by trivial, mj_isk_mk _ _⟩, k, rfl, ⟨o2, by omega⟩, ?_⟩
      obtain ⟨hF2, hs2⟩ := FOk_aft (R := R) hn hF g (by omega)
      have e5 : I' 104 5 = lv7 (I 104) 5 := by rw [hfr 104 5 (by (try dsimp only); omega), ha0.2 104 5 (by (try dsimp only); omega), lv7_at (by decide)]
      have e0 := i_sub (x := lv7 (I 104) 5) (y := I 106 48 + nI g) (by omega)
      have hfS : fr (fun c k => c = 100 ∨ c = 101 ∨ (c = 106 ∧ k < 49) ∨ c = 107 ∨ c = 108 ∨ c = 109 ∨ (c = 91 ∧ (k = 25 ∨ k = 26))) A I' := fr_mo hfr (fun c q y1 => by (try dsimp only at y1 ⊢); omega)
      rw [n2, V2]
      unfold fstN at h
      have cl : mj_G Ω l false mX12_keeps d 0 0 Φ 0 0 41 ([some (.ref 91), some (.int (nI k)), some (.int (nI g)), none], [], mk I' J) := k41 g I' _ o2 n2 hfS (fun y1 => by rw [V2] at y1; rw [cif_t y1]) (fun y1 => by rw [V2] at y1; rw [cif_f y1]; rfl) h
      split
      · rw [e5, s2, if_neg (by rw [Int32.lt_iff_toInt_lt, i_0, e0]; omega)]
        exact cl
      · exact cl
    | succ j ih =>
      intro g I' hg o2 n2 V2 s2 hfr h
      refine bX12_keeps_16 hd (nI k) (nI g) I' J ?_
      refine ⟨⟨by trivial, mj_isk_mk _ _⟩, k, rfl, ⟨o2, by omega⟩, ?_⟩
      obtain ⟨hF2, hs2⟩ := FOk_aft (R := R) hn hF g (by omega)
      have e5 : I' 104 5 = lv7 (I 104) 5 := by rw [hfr 104 5 (by (try dsimp only); omega), ha0.2 104 5 (by (try dsimp only); omega), lv7_at (by decide)]
      have C2 : lv7 (I' 104) = lv7 (I 104) := by rw [lv7_fr (fun q => hfr 104 q (by (try dsimp only); omega)), lv7_fr (fun q => ha0.2 104 q (by (try dsimp only); omega))]
      have e0 := i_sub (x := lv7 (I 104) 5) (y := I 106 48 + nI g) (by omega)
      have hfS : fr (fun c k => c = 100 ∨ c = 101 ∨ (c = 106 ∧ k < 49) ∨ c = 107 ∨ c = 108 ∨ c = 109 ∨ (c = 91 ∧ (k = 25 ∨ k = 26))) A I' := fr_mo hfr (fun c q y1 => by (try dsimp only at y1 ⊢); omega)
      have i25 : I' 91 25 = -1 := by rw [hfr 91 25 (by (try dsimp only); omega), ha0.2 91 25 (by (try dsimp only); omega)]; exact h25
      have hR2 : RuM I' m R := RuM_fr hR (by rw [hfr 91 13 (by (try dsimp only); omega), ha0.2 91 13 (by (try dsimp only); omega)]) (fun c q y1 y2 => by rw [hfr c q (by (try dsimp only); omega), ha0.2 c q (by (try dsimp only); omega)])
      rw [n2, V2]
      unfold fstN at h
      split
      · rename_i z
        rw [b2i_e0] at z
        simp only [cif_f z] at h
        rw [e5, s2, if_pos (by rw [Int32.lt_iff_toInt_lt, i_0, e0]; omega)]
        refine ⟨⟨by trivial, mj_isk_mk _ _⟩, 19, m, R, ⟨by decide, ⟨o2, by rw [n2, C2, V2, s2]; exact hF2⟩, hR2, by rw [i25]; exact Or.inl rfl⟩, fun D hD => ?_⟩
        obtain ⟨d1, d2, d3, d4⟩ := hD
        obtain ⟨o3, n3, -⟩ := mM_fr d4 (by (try dsimp only); omega) o2
        rw [C2, i25, passG_V] at d1
        rw [jn_succ]
        exact ih (g + 1) D (by omega) o3 (by rw [n3, n2]) d1 (by rw [d2, Int32.add_assoc, jn_succ]) (fr_tr hfr d4) h
      · rename_i z
        rw [b2i_e0] at z
        have z' := Classical.not_not.mp z
        simp only [cif_t z'] at h
        exact k41 g I' _ o2 n2 hfS (fun _ => rfl) (fun y1 => by rw [V2] at y1; exact absurd z' y1) h
  obtain ⟨q1, q2, q3, q4, q5⟩ := qM_a hp ha0
  exact key L 0 A (by omega) q1.1 q2 q3 (by rw [q5, show nI 0 = 0 from rfl, Int32.add_zero]) fr_rf h
theorem sdX12_keeps : mj_Sd mX12_keeps 9 tX12_keeps := by
  intro Ω l d hd as M Φ h
  unfold tX12_keeps at h
  split at h
  · rename_i z_this b
    obtain ⟨⟨rfl, hM⟩, m, R, hp, h⟩ := h
    rw [mj_isk_of hM]
    exact mnX12_keeps hd b m R _ _ hp (by
      rw [mj_isk_of hM] at h
      exact h)
  · exact h.elim
