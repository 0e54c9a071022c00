/-! ===== the class's seconds: draws, seconds of each sort, to the gun (by program, wip/whole/pf.py) ===== -/
noncomputable def nxJ (x : Int64) : Int64 := hid (x * 6364136223846793005 + 1442695040888963407)
theorem nxJ_eq (x : Int64) : nxJ x = x * 6364136223846793005 + 1442695040888963407 := hid_eq _
noncomputable def drw (y : Int64) (m : Int32) : Int32 := hid ((y.toUInt64 >>> ((33 : Int32).toInt64.toUInt64 &&& Int64.toUInt64 63)).toInt64 - (y.toUInt64 >>> ((33 : Int32).toInt64.toUInt64 &&& Int64.toUInt64 63)).toInt64 / m.toInt64 * m.toInt64).toInt32
theorem drw_eq (y : Int64) (m : Int32) : drw y m = ((y.toUInt64 >>> ((33 : Int32).toInt64.toUInt64 &&& Int64.toUInt64 63)).toInt64 - (y.toUInt64 >>> ((33 : Int32).toInt64.toUInt64 &&& Int64.toUInt64 63)).toInt64 / m.toInt64 * m.toInt64).toInt32 := hid_eq _
theorem ul_s {J : Nat → Nat → Int64} {c k : Nat} {x : Int64} : mj_ul J c k x c k = x := by simp [mj_ul]
theorem ul_c {J : Nat → Nat → Int64} {c k c' k' : Nat} {x : Int64} (h : ¬ c' = c) : mj_ul J c k x c' k' = J c' k' := by simp [mj_ul, h]
theorem ul_u {J : Nat → Nat → Int64} {c k : Nat} {x y : Int64} : mj_ul (mj_ul J c k x) c k y = mj_ul J c k y := by
  funext a b
  simp only [mj_ul]
  by_cases q : a = c <;> by_cases z : b = k <;> simp [q, z]
theorem ul_id {J : Nat → Nat → Int64} {c k : Nat} : mj_ul J c k (J c k) = J := by
  funext a b
  simp only [mj_ul]
  by_cases q : a = c <;> by_cases z : b = k <;> simp [q, z]
noncomputable def gustS (g : Int32) (i : Nat) (p : Vw × Int64) : Vw × Int64 := cif (drw (nxJ p.2) 100 < g) (vup p.1 2 i (asp (p.1 2 i) (p.1 3 i) (cif (drw (nxJ (nxJ p.2)) 2 = 0) (-1) 1)), nxJ (nxJ p.2)) (p.1, nxJ p.2)
noncomputable def gustN (g : Int32) : Nat → Vw × Int64 → Vw × Int64
  | 0, p => p
  | i + 1, p => gustS g i (gustN g i p)
def csX2_nextS : List (Nat × Nat × Nat × mj_PT) := []
theorem csX2_nextS_ok : mj_Cs mX2_next 1 csX2_nextS := mj_Cs0
def cutX2_nextS : List (Nat × List Bool) := []
set_option maxRecDepth 100000 in
set_option maxHeartbeats 4000000 in
theorem inX2_nextS {Ω : mj_Om} {l : Launch} {d : Nat} {Φ : Option Value → mj_M → Prop} (hd : 1 ≤ d) (m : Int32) (I : Nat → Nat → Int32) (J : Nat → Nat → Int64)
    (h : ((if m < (1 : Int32) then (Φ (some (.int (0 : Int32))) (mk I (mj_ul J 79 0 (((J 79 0) * (6364136223846793005 : Int64)) + (1442695040888963407 : Int64))))) else (mj_gd (!decide (((m).toInt64) = 0)) (Φ (some (.int (((((((((J 79 0) * (6364136223846793005 : Int64)) + (1442695040888963407 : Int64))).toUInt64 >>> (((33 : Int32)).toInt64.toUInt64 &&& Int64.toUInt64 63)).toInt64) - ((((((J 79 0) * (6364136223846793005 : Int64)) + (1442695040888963407 : Int64))).toUInt64 >>> (((33 : Int32)).toInt64.toUInt64 &&& Int64.toUInt64 63)).toInt64) / ((m).toInt64) * ((m).toInt64))).toInt32))) (mk I (mj_ul J 79 0 (((J 79 0) * (6364136223846793005 : Int64)) + (1442695040888963407 : Int64))))))))) :
    mj_Met Ω l false mX2_next d 0 0 [.ref 79, .int m] (mk I J) Φ := mj_entry (by decide) rfl (fun h => (by cases h)) (Nat.le_of_ble_eq_true rfl) (mj_blk (μ := mX2_next) (P := pX2_next) (cut := cutX2_nextS) (cs := csX2_nextS) dX2_next csX2_nextS_ok hd 23 0 _ h)
def tX2_nextS : mj_PT := fun as M Φ => match as with
  | [.ref this, .int m] => ((this = 79 ∧ mj_isk M) ∧ ((0 < (m).toInt) ∧ (∀ I1 : Nat → Nat → Int32, ∀ J1 : Nat → Nat → Int64, (M.2.2.1 = I1 ∧ mj_ul M.2.2.2 79 0 (nxJ (M.2.2.2 79 0)) = J1) → Φ (some (.int (drw (nxJ (M.2.2.2 79 0)) m))) (M.1, M.2.1, I1, J1))))
  | _ => False
theorem mnX2_nextS {Ω : mj_Om} {l : Launch} {d : Nat} {Φ : Option Value → mj_M → Prop} (hd : 1 ≤ d) (m : Int32) (I : Nat → Nat → Int32) (J : Nat → Nat → Int64) (hp : 0 < (m).toInt) (h : ∀ I1 : Nat → Nat → Int32, ∀ J1 : Nat → Nat → Int64, (I = I1 ∧ mj_ul J 79 0 (nxJ (J 79 0)) = J1) → Φ (some (.int (drw (nxJ (J 79 0)) m))) (mk I1 J1)) : mj_Met Ω l false mX2_next d 0 0 [.ref 79, .int m] (mk I J) Φ := by
  refine inX2_nextS hd m I J ?_
  have h1 : ¬ m < 1 := by rw [Int32.lt_iff_toInt_lt, i_1]; omega
  have h2 : ¬ m.toInt64 = 0 := by
    intro q
    rw [← Int64.toInt_inj, Int32.toInt_toInt64] at q
    have : (0 : Int64).toInt = 0 := rfl
    omega
  rw [if_neg h1]
  simp only [h2, decide_false, Bool.not_false, gd_true]
  have := h I (mj_ul J 79 0 (nxJ (J 79 0))) ⟨rfl, rfl⟩
  rw [drw_eq, nxJ_eq] at this
  exact this
theorem sdX2_nextS : mj_Sd mX2_next 1 tX2_nextS := by
  intro Ω l d hd as M Φ h
  unfold tX2_nextS at h
  split at h
  · rename_i z_this m
    obtain ⟨⟨rfl, hM⟩, hp, h⟩ := h
    rw [mj_isk_of hM]
    exact mnX2_nextS hd m _ _ hp (by
      rw [mj_isk_of hM] at h
      exact h)
  · exact h.elim
def csX12_drawS : List (Nat × Nat × Nat × mj_PT) := []
theorem csX12_drawS_ok : mj_Cs mX12_draw 1 csX12_drawS := mj_Cs0
def cutX12_drawS : List (Nat × List Bool) := []
set_option maxRecDepth 100000 in
set_option maxHeartbeats 4000000 in
theorem inX12_drawS {Ω : mj_Om} {l : Launch} {d : Nat} {Φ : Option Value → mj_M → Prop} (hd : 1 ≤ d) (m : Int32) (I : Nat → Nat → Int32) (J : Nat → Nat → Int64)
    (h : ((mj_gd (!decide (((m).toInt64) = 0)) (Φ (some (.int (((((((((J 91 32) * (6364136223846793005 : Int64)) + (1442695040888963407 : Int64))).toUInt64 >>> (((33 : Int32)).toInt64.toUInt64 &&& Int64.toUInt64 63)).toInt64) - ((((((J 91 32) * (6364136223846793005 : Int64)) + (1442695040888963407 : Int64))).toUInt64 >>> (((33 : Int32)).toInt64.toUInt64 &&& Int64.toUInt64 63)).toInt64) / ((m).toInt64) * ((m).toInt64))).toInt32))) (mk I (mj_ul J 91 32 (((J 91 32) * (6364136223846793005 : Int64)) + (1442695040888963407 : Int64)))))))) :
    mj_Met Ω l false mX12_draw d 0 0 [.ref 91, .int m] (mk I J) Φ := mj_entry (by decide) rfl (fun h => (by cases h)) (Nat.le_of_ble_eq_true rfl) (mj_blk (μ := mX12_draw) (P := pX12_draw) (cut := cutX12_drawS) (cs := csX12_drawS) dX12_draw csX12_drawS_ok hd 18 0 _ h)
def tX12_drawS : mj_PT := fun as M Φ => match as with
  | [.ref this, .int m] => ((this = 91 ∧ mj_isk M) ∧ ((0 < (m).toInt) ∧ (∀ I1 : Nat → Nat → Int32, ∀ J1 : Nat → Nat → Int64, (M.2.2.1 = I1 ∧ mj_ul M.2.2.2 91 32 (nxJ (M.2.2.2 91 32)) = J1) → Φ (some (.int (drw (nxJ (M.2.2.2 91 32)) m))) (M.1, M.2.1, I1, J1))))
  | _ => False
theorem mnX12_drawS {Ω : mj_Om} {l : Launch} {d : Nat} {Φ : Option Value → mj_M → Prop} (hd : 1 ≤ d) (m : Int32) (I : Nat → Nat → Int32) (J : Nat → Nat → Int64) (hp : 0 < (m).toInt) (h : ∀ I1 : Nat → Nat → Int32, ∀ J1 : Nat → Nat → Int64, (I = I1 ∧ mj_ul J 91 32 (nxJ (J 91 32)) = J1) → Φ (some (.int (drw (nxJ (J 91 32)) m))) (mk I1 J1)) : mj_Met Ω l false mX12_draw d 0 0 [.ref 91, .int m] (mk I J) Φ := by
  refine inX12_drawS hd m I J ?_
  have h2 : ¬ m.toInt64 = 0 := by
    intro q
    rw [← Int64.toInt_inj, Int32.toInt_toInt64] at q
    have : (0 : Int64).toInt = 0 := rfl
    omega
  simp only [h2, decide_false, Bool.not_false, gd_true]
  have := h I (mj_ul J 91 32 (nxJ (J 91 32))) ⟨rfl, rfl⟩
  rw [drw_eq, nxJ_eq] at this
  exact this
theorem sdX12_drawS : mj_Sd mX12_draw 1 tX12_drawS := by
  intro Ω l d hd as M Φ h
  unfold tX12_drawS at h
  split at h
  · rename_i z_this m
    obtain ⟨⟨rfl, hM⟩, hp, h⟩ := h
    rw [mj_isk_of hM]
    exact mnX12_drawS hd m _ _ hp (by
      rw [mj_isk_of hM] at h
      exact h)
  · exact h.elim
def csX4_drawGusts : List (Nat × Nat × Nat × mj_PT) := [(57, 0, 2, mj_rcv 3 tX3_speedUp), (95, 0, 2, mj_rcv 3 tX3_slowDown), (98, 0, 2, mj_rcv 2 tX2_nextS)]
theorem csX4_drawGusts_ok : mj_Cs mX4_drawGusts 2 csX4_drawGusts := (mj_CsV (D' := 1) (ci := 3) (q := (RX3, TX3, 10)) sdX3_speedUp (Nat.le_of_ble_eq_true rfl) fX3_speedUp rfl rfl iX3_speedUp vX3_speedUp (by decide +kernel) l4_57 (mj_CsV (D' := 1) (ci := 3) (q := (RX3, TX3, 10)) sdX3_slowDown (Nat.le_of_ble_eq_true rfl) fX3_slowDown rfl rfl iX3_slowDown vX3_slowDown (by decide +kernel) l4_95 (mj_CsV (D' := 1) (ci := 2) (q := (RX2, TX2, 1)) sdX2_nextS (Nat.le_of_ble_eq_true rfl) fX2_next rfl rfl iX2_next vX2_next (by decide +kernel) l4_98 mj_Cs0)))
def cutX4_drawGusts : List (Nat × List Bool) := [(3, [true, true, true, true, true]), (25, [true, true, true, true, true]), (48, [true, true, true, true, true])]
set_option maxRecDepth 100000 in
set_option maxHeartbeats 4000000 in
theorem inX4_drawGusts {Ω : mj_Om} {l : Launch} {d : Nat} {Φ : Option Value → mj_M → Prop} (hd : 2 ≤ d) (f : Nat) (hf : isF3 f) (g : Int32) (I : Nat → Nat → Int32) (J : Nat → Nat → Int64)
    (h : ((mj_G Ω l false mX4_drawGusts d 0 0 Φ 0 0 3 ([some (.ref 75), some (.ref f), some (.ref 79), some (.int g), some (.int (0 : Int32))], [], (mk I J))))) :
    mj_Met Ω l false mX4_drawGusts d 0 0 [.ref 75, .ref f, .ref 79, .int g] (mk I J) Φ := by
  rcases hf with rfl | rfl | rfl <;> exact mj_entry (by decide) rfl (fun h => (by cases h)) (Nat.le_of_ble_eq_true rfl) (mj_blk (μ := mX4_drawGusts) (P := pX4_drawGusts) (cut := cutX4_drawGusts) (cs := csX4_drawGusts) dX4_drawGusts csX4_drawGusts_ok hd 27 0 _ h)
set_option maxRecDepth 100000 in
set_option maxHeartbeats 4000000 in
theorem bX4_drawGusts_3 {Ω : mj_Om} {l : Launch} {d : Nat} {Φ : Option Value → mj_M → Prop} (hd : 2 ≤ d) (f : Nat) (hf : isF3 f) (x3 : Int32) (x4 : Int32) (I : Nat → Nat → Int32) (J : Nat → Nat → Int64)
    (h : ((if x4 < (I f 8) then ((79 = 79 ∧ mj_isk (mk I J)) ∧ ((0 < ((100 : Int32)).toInt) ∧ (∀ I73 : Nat → Nat → Int32, ∀ J74 : Nat → Nat → Int64, (I = I73 ∧ mj_ul J 79 0 (nxJ (J 79 0)) = J74) → (if (drw (nxJ (J 79 0)) (100 : Int32)) < x3 then (mj_G Ω l false mX4_drawGusts d 0 0 Φ 0 0 25 ([some (.ref 75), some (.ref f), some (.ref 79), some (.int x3), some (.int x4)], [], (mk I73 J74))) else (mj_G Ω l false mX4_drawGusts d 0 0 Φ 0 0 48 ([some (.ref 75), some (.ref f), some (.ref 79), some (.int x3), some (.int x4)], [], (mk I73 J74))))))) else (Φ none (mk I J))))) :
    mj_G Ω l false mX4_drawGusts d 0 0 Φ 0 0 3 ([some (.ref 75), some (.ref f), some (.ref 79), some (.int x3), some (.int x4)], [], mk I J) := by
  rcases hf with rfl | rfl | rfl <;> exact mj_blk (μ := mX4_drawGusts) (P := pX4_drawGusts) (cut := cutX4_drawGusts) (cs := csX4_drawGusts) dX4_drawGusts csX4_drawGusts_ok hd 27 3 _ h
set_option maxRecDepth 100000 in
set_option maxHeartbeats 4000000 in
theorem bX4_drawGusts_25 {Ω : mj_Om} {l : Launch} {d : Nat} {Φ : Option Value → mj_M → Prop} (hd : 2 ≤ d) (f : Nat) (hf : isF3 f) (x3 : Int32) (x4 : Int32) (I : Nat → Nat → Int32) (J : Nat → Nat → Int64)
    (h : (((79 = 79 ∧ mj_isk (mk I J)) ∧ ((0 < ((2 : Int32)).toInt) ∧ (∀ I75 : Nat → Nat → Int32, ∀ J76 : Nat → Nat → Int64, (I = I75 ∧ mj_ul J 79 0 (nxJ (J 79 0)) = J76) → (if (drw (nxJ (J 79 0)) (2 : Int32)) = (0 : Int32) then (mj_gd (mj_inB x4 8) (if (0 : Int32) < (I75 (f + 3) (x4).toNatClampNeg) then (mj_gd (mj_inB x4 8) (mj_gd (mj_inB x4 8) (mj_G Ω l false mX4_drawGusts d 0 0 Φ 0 0 48 ([some (.ref 75), some (.ref f), some (.ref 79), some (.int x3), some (.int x4)], [], (mk (mj_ui I75 (f + 3) (x4).toNatClampNeg ((I75 (f + 3) (x4).toNatClampNeg) - (1 : Int32))) J76))))) else (mj_G Ω l false mX4_drawGusts d 0 0 Φ 0 0 48 ([some (.ref 75), some (.ref f), some (.ref 79), some (.int x3), some (.int x4)], [], (mk I75 J76))))) else (mj_gd (mj_inB x4 8) (mj_gd (mj_inB x4 8) (if (I75 (f + 3) (x4).toNatClampNeg) < (I75 (f + 4) (x4).toNatClampNeg) then (mj_gd (mj_inB x4 8) (mj_gd (mj_inB x4 8) (mj_G Ω l false mX4_drawGusts d 0 0 Φ 0 0 48 ([some (.ref 75), some (.ref f), some (.ref 79), some (.int x3), some (.int x4)], [], (mk (mj_ui I75 (f + 3) (x4).toNatClampNeg ((I75 (f + 3) (x4).toNatClampNeg) + (1 : Int32))) J76))))) else (mj_G Ω l false mX4_drawGusts d 0 0 Φ 0 0 48 ([some (.ref 75), some (.ref f), some (.ref 79), some (.int x3), some (.int x4)], [], (mk I75 J76)))))))))))) :
    mj_G Ω l false mX4_drawGusts d 0 0 Φ 0 0 25 ([some (.ref 75), some (.ref f), some (.ref 79), some (.int x3), some (.int x4)], [], mk I J) := by
  rcases hf with rfl | rfl | rfl <;> exact mj_blk (μ := mX4_drawGusts) (P := pX4_drawGusts) (cut := cutX4_drawGusts) (cs := csX4_drawGusts) dX4_drawGusts csX4_drawGusts_ok hd 27 25 _ h
set_option maxRecDepth 100000 in
set_option maxHeartbeats 4000000 in
theorem bX4_drawGusts_48 {Ω : mj_Om} {l : Launch} {d : Nat} {Φ : Option Value → mj_M → Prop} (hd : 2 ≤ d) (f : Nat) (hf : isF3 f) (x3 : Int32) (x4 : Int32) (I : Nat → Nat → Int32) (J : Nat → Nat → Int64)
    (h : ((mj_G Ω l false mX4_drawGusts d 0 0 Φ 0 0 3 ([some (.ref 75), some (.ref f), some (.ref 79), some (.int x3), some (.int (x4 + (1 : Int32)))], [], (mk I J))))) :
    mj_G Ω l false mX4_drawGusts d 0 0 Φ 0 0 48 ([some (.ref 75), some (.ref f), some (.ref 79), some (.int x3), some (.int x4)], [], mk I J) := by
  rcases hf with rfl | rfl | rfl <;> exact mj_blk (μ := mX4_drawGusts) (P := pX4_drawGusts) (cut := cutX4_drawGusts) (cs := csX4_drawGusts) dX4_drawGusts csX4_drawGusts_ok hd 27 48 _ h
def tX4_drawGusts : mj_PT := fun as M Φ => match as with
  | [.ref this, .ref f_, .ref q_, .int g] => ((this = 75 ∧ q_ = 79 ∧ isF3 f_ ∧ mj_isk M) ∧ ((okF M.2.2.1 f_) ∧ (∀ I1 : Nat → Nat → Int32, ∀ J1 : Nat → Nat → Int64, (VF I1 f_ = (gustN g (nF M.2.2.1 f_) (VF M.2.2.1 f_, M.2.2.2 79 0)).1 ∧ J1 = mj_ul M.2.2.2 79 0 (gustN g (nF M.2.2.1 f_) (VF M.2.2.1 f_, M.2.2.2 79 0)).2 ∧ fr (fun c _ => c = f_ + 3) M.2.2.1 I1) → Φ none (M.1, M.2.1, I1, J1))))
  | _ => False
set_option maxHeartbeats 4000000 in
theorem mnX4_drawGusts {Ω : mj_Om} {l : Launch} {d : Nat} {Φ : Option Value → mj_M → Prop} (hd : 2 ≤ d) (f : Nat) (hf : isF3 f) (g : Int32) (I : Nat → Nat → Int32) (J : Nat → Nat → Int64) (hp : okF I f) (h : ∀ I1 : Nat → Nat → Int32, ∀ J1 : Nat → Nat → Int64, (VF I1 f = (gustN g (nF I f) (VF I f, J 79 0)).1 ∧ J1 = mj_ul J 79 0 (gustN g (nF I f) (VF I f, J 79 0)).2 ∧ fr (fun c _ => c = f + 3) I I1) → Φ none (mk I1 J1)) : mj_Met Ω l false mX4_drawGusts d 0 0 [.ref 75, .ref f, .ref 79, .int g] (mk I J) Φ := by
  refine inX4_drawGusts hd f hf g I J ?_
  obtain ⟨hc, hn⟩ := hp
  refine lp_inv (σ := (Nat → Nat → Int32) × (Nat → Nat → Int64)) (n := nF I f) (G := fun i p => mj_G Ω l false mX4_drawGusts d 0 0 Φ 0 0 3 ([some (.ref 75), some (.ref f), some (.ref 79), some (.int g), some (.int (nI i))], [], mk p.1 p.2)) (fun i p => VF p.1 f = (gustN g i (VF I f, J 79 0)).1 ∧ p.2 = mj_ul J 79 0 (gustN g i (VF I f, J 79 0)).2 ∧ fr (fun c _ => c = f + 3) I p.1) (fun i p hi hI hk => ?_) (fun p hI => ?_) (nF I f) 0 (I, J) (by omega) ⟨rfl, ul_id.symm, fr_rf⟩
  · refine bX4_drawGusts_3 hd f hf g (nI i) p.1 p.2 ?_
    obtain ⟨I', J'⟩ := p
    obtain ⟨hV, hJ, hfr⟩ := hI
    simp only at hV hJ hfr ⊢
    obtain ⟨e8, en⟩ := fr_n hfr (f := f) (by (try dsimp only); omega)
    rw [hc] at e8
    rw [e8, if_pos (by rw [jn_lt (by omega) (by omega)]; exact hi)]
    refine ⟨⟨by trivial, mj_isk_mk _ _⟩, by decide, fun I1 J1 h1 => ?_⟩
    obtain ⟨rfl, rfl⟩ := h1
    have hx : J' 79 0 = (gustN g i (VF I f, J 79 0)).2 := by rw [hJ, ul_s]
    have nx : ∀ (I2 : Nat → Nat → Int32) (J2 : Nat → Nat → Int64), VF I2 f = (gustS g i (gustN g i (VF I f, J 79 0))).1 → J2 = mj_ul J 79 0 (gustS g i (gustN g i (VF I f, J 79 0))).2 → fr (fun c _ => c = f + 3) I I2 → mj_G Ω l false mX4_drawGusts d 0 0 Φ 0 0 48 ([some (.ref 75), some (.ref f), some (.ref 79), some (.int g), some (.int (nI i))], [], mk I2 J2) := by
      intro I2 J2 h1 h2 h3
      refine bX4_drawGusts_48 hd f hf g (nI i) I2 J2 ?_
      rw [jn_succ]
      exact hk (I2, J2) ⟨h1, h2, h3⟩
    unfold gustS at nx
    simp only [hx]
    generalize (gustN g i (VF I f, J 79 0)) = q at *
    split
    · rename_i z
      refine bX4_drawGusts_25 hd f hf g (nI i) I' (mj_ul J' 79 0 (nxJ q.2)) ?_
      refine ⟨⟨by trivial, mj_isk_mk _ _⟩, by decide, fun I1 J1 h1 => ?_⟩
      obtain ⟨rfl, rfl⟩ := h1
      rw [ul_s, ul_u, hJ, ul_u]
      simp only [cif_t z] at nx
      have g2 := VF_2 (I := I') (f := f) (b := i) (by omega)
      have g3 := VF_3 (I := I') (f := f) (b := i) (by omega)
      rw [hV] at g2 g3
      have nxs : ∀ v : Int32, v = asp (q.1 2 i) (q.1 3 i) (cif (drw (nxJ (nxJ q.2)) 2 = 0) (-1) 1) → mj_G Ω l false mX4_drawGusts d 0 0 Φ 0 0 48 ([some (.ref 75), some (.ref f), some (.ref 79), some (.int g), some (.int (nI i))], [], mk (mj_ui I' (f + 3) i v) (mj_ul J 79 0 (nxJ (nxJ q.2)))) := fun v hv => nx _ _ (by rw [VFu_2 (by omega), hV, hv]) rfl (fr_ui hfr rfl)
      have nxt : asp (q.1 2 i) (q.1 3 i) (cif (drw (nxJ (nxJ q.2)) 2 = 0) (-1) 1) = q.1 2 i → mj_G Ω l false mX4_drawGusts d 0 0 Φ 0 0 48 ([some (.ref 75), some (.ref f), some (.ref 79), some (.int g), some (.int (nI i))], [], mk I' (mj_ul J 79 0 (nxJ (nxJ q.2)))) := fun hv => nx _ _ (by rw [hv, vup_id, hV]) rfl hfr
      simp (disch := omega) only [jn_in, jn_cl, gd_dec]
      rw [← g2, ← g3]
      by_cases z2 : drw (nxJ (nxJ q.2)) 2 = 0
      · rw [if_pos z2]
        simp only [cif_t z2, asp, show ¬ (0 : Int32) < -1 by decide, show (-1 : Int32) < 0 by decide, if_true, if_false] at nxs nxt
        split
        · rename_i a3; exact nxs _ (by rw [if_pos a3])
        · rename_i a3; exact nxt (by rw [if_neg a3])
      · rw [if_neg z2]
        simp only [cif_f z2, asp, show (0 : Int32) < 1 by decide, if_true, if_false] at nxs nxt
        split
        · rename_i a3; exact nxs _ (by rw [if_pos a3])
        · rename_i a3; exact nxt (by rw [if_neg a3])
    · rename_i z
      refine nx _ _ (by rw [cif_f z]; exact hV) ?_ hfr
      rw [cif_f z, hJ, ul_u]
  · refine bX4_drawGusts_3 hd f hf g (nI (nF I f)) p.1 p.2 ?_
    obtain ⟨e8, en⟩ := fr_n hI.2.2 (f := f) (by (try dsimp only); omega)
    rw [hc] at e8
    rw [e8, if_neg (by rw [jn_lt (by omega) (by omega)]; omega)]
    exact h p.1 p.2 hI
theorem sdX4_drawGusts : mj_Sd mX4_drawGusts 2 tX4_drawGusts := by
  intro Ω l d hd as M Φ h
  unfold tX4_drawGusts at h
  split at h
  · rename_i z_this f z_q g
    obtain ⟨⟨rfl, rfl, hf, hM⟩, hp, h⟩ := h
    rw [mj_isk_of hM]
    exact mnX4_drawGusts hd f hf g _ _ hp (by
      rw [mj_isk_of hM] at h
      exact h)
  · exact h.elim
