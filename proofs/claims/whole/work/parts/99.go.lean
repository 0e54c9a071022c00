/-! ===== go and blow on both sides (by program, wip/whole/p99.py) ===== -/
theorem spdV_m {n : Nat} {C : Nat → Int32} {R : RF} {F : Vw} {s k : Int32} : spdV n C R F s (-1) k = askV n C R F s (-1) := by unfold spdV; rw [cif_t rfl]
theorem passG_m {n : Nat} {C : Nat → Int32} {R : RF} {F : Vw} {s k : Int32} : passG n C R F s (-1) k = passV n C R F s := by unfold passG passV; rw [spdV_m]
theorem hsF_m : hsF (-1) 0 = 0 := by unfold hsF; rw [cif_f (fun w => w.1 rfl)]
noncomputable def goP (n : Nat) (C : Nat → Int32) (R : RF) : StP := fun F s z => (passV n C R F s, z)
noncomputable def blP (n : Nat) (C : Nat → Int32) (R : RF) (g : Int32) : StP := fun F s z => (moveV n C (shV n F) (F 1) (gustN g n (askV n C R F s (-1), z)).1 s, (gustN g n (askV n C R F s (-1), z)).2)
theorem gOk_gS {n i : Nat} {u w d : Int} {g : Int32} {p : Vw × Int64} (h : gOk n u w d p.1) : gOk n u w d (gustS g i p).1 := by
  unfold gustS
  by_cases q : drw (nxJ p.2) 100 < g
  · rw [cif_t q]
    exact gOk_sp h (fun hb => by have := h i hb; exact asp_ok this.2.2.1 this.2.2.2.1.2)
  · rw [cif_f q]; exact h
theorem gOk_gN {n : Nat} {u w d : Int} {g : Int32} {p : Vw × Int64} (h : gOk n u w d p.1) : ∀ i, gOk n u w d (gustN g i p).1
  | 0 => h
  | i + 1 => gOk_gS (gOk_gN h i)
theorem goP_ok {n : Nat} {C : Nat → Int32} {R : RF} (hn : n ≤ 8) : ∀ F s z, FOk 19 n C F s → s.toInt < (C 5).toInt → FOk 19 n C (goP n C R F s z).1 (s + 1) := fun F s z h hs => FOk_pass hn h hs
theorem blP_ok {n : Nat} {C : Nat → Int32} {R : RF} {g : Int32} (hn : n ≤ 8) : ∀ F s z, FOk 19 n C F s → s.toInt < (C 5).toInt → FOk 19 n C (blP n C R g F s z).1 (s + 1) := fun F s z h hs => FOk_move hn h hs (shV_or n F) (gOk_gN (gOk_ask (FOk_g h)) n)
/-- may so many seconds pass? -/
theorem can {C5 s x : Int32} (h1 : 1 ≤ C5.toInt ∧ C5.toInt ≤ 60) (h2 : 0 ≤ s.toInt ∧ s.toInt ≤ C5.toInt) (q1 : ¬ x < 1) (q2 : ¬ C5 - s < x) : ∃ k : Nat, x = nI k ∧ 1 ≤ k ∧ s.toInt + k ≤ C5.toInt := by
  rw [Int32.lt_iff_toInt_lt, i_1] at q1
  rw [Int32.lt_iff_toInt_lt, i_sub (by omega)] at q2
  have e := jn_of (x := x) (by rw [Int32.le_iff_toInt_le, i_0]; omega)
  have e2 : x.toInt = (x.toNatClampNeg : Int) := by
    have := congrArg Int32.toInt e
    rw [jn_toInt (cl_lt x)] at this
    exact this
  exact ⟨x.toNatClampNeg, e, by omega, by omega⟩
theorem hyb_a {I A : Nat → Nat → Int32} (h : ∀ c k, 91 ≤ c → A c k = I c k) : hyb I A = I := by
  funext c k
  by_cases q : c < 91
  · exact hyb_l q
  · rw [hyb_r (by omega)]; exact h c k (by omega)
theorem hyb_b {A B : Nat → Nat → Int32} (h : ∀ c k, c < 91 → B c k = A c k) : hyb A B = B := by
  funext c k
  by_cases q : c < 91
  · rw [hyb_l q]; exact (h c k q).symm
  · exact hyb_r (by omega)
theorem clF_lo {I A : Nat → Nat → Int32} (h : fr clF I A) : ∀ c k, 91 ≤ c → A c k = I c k := fun c k hc => h c k (by unfold clF paF; omega)
theorem rlF_hi {I A : Nat → Nat → Int32} (h : fr rlF I A) : ∀ c k, c < 91 → A c k = I c k := fun c k hc => h c k (by unfold rlF paM; omega)
def csX11_go : List (Nat × Nat × Nat × mj_PT) := [(211, 0, 2, mj_rcv 0 tX0_remember), (225, 0, 2, mj_rcv 11 tX11_canPass), (228, 0, 3, mj_rcv 4 tX4_passSecond)]
theorem csX11_go_ok : mj_Cs mX11_go 5 csX11_go := (mj_CsV (D' := 2) (ci := 0) (q := (RX0, TX0, 3)) sdX0_remember (Nat.le_of_ble_eq_true rfl) fX0_remember rfl rfl iX0_remember vX0_remember (by decide +kernel) l11_211 (mj_CsV (D' := 2) (ci := 11) (q := (RX11, TX11, 18)) sdX11_canPass (Nat.le_of_ble_eq_true rfl) fX11_canPass rfl rfl iX11_canPass vX11_canPass (by decide +kernel) l11_225 (mj_CsV (D' := 4) (ci := 4) (q := (RX4, TX4, 4)) sdX4_passSecond (Nat.le_of_ble_eq_true rfl) fX4_passSecond rfl rfl iX4_passSecond vX4_passSecond (by decide +kernel) l11_228 mj_Cs0)))
def cutX11_go : List (Nat × List Bool) := [(12, [true, true, true])]
set_option maxRecDepth 100000 in
set_option maxHeartbeats 4000000 in
theorem inX11_go {Ω : mj_Om} {l : Launch} {d : Nat} {Φ : Option Value → mj_M → Prop} (hd : 5 ≤ d) (x : Int32) (I : Nat → Nat → Int32) (J : Nat → Nat → Int64)
    (h : ((if (0 : Int32) < (I 39 8) then (if x < (1 : Int32) then (Φ (some (.int (-1 : Int32))) (mk I J)) else (if ((I 27 5) - (I 39 9)) < x then (Φ (some (.int (-1 : Int32))) (mk I J)) else (mj_G Ω l false mX11_go d 0 0 Φ 0 0 12 ([some (.ref 0), some (.int x), some (.int (0 : Int32))], [], (mk I J))))) else (Φ (some (.int (-1 : Int32))) (mk I J))))) :
    mj_Met Ω l false mX11_go d 0 0 [.ref 0, .int x] (mk I J) Φ := mj_entry (by decide) rfl (fun h => (by cases h)) (Nat.le_of_ble_eq_true rfl) (mj_blk (μ := mX11_go) (P := pX11_go) (cut := cutX11_go) (cs := csX11_go) dX11_go csX11_go_ok hd 30 0 _ h)
set_option maxRecDepth 100000 in
set_option maxHeartbeats 4000000 in
theorem bX11_go_12 {Ω : mj_Om} {l : Launch} {d : Nat} {Φ : Option Value → mj_M → Prop} (hd : 5 ≤ d) (x1 : Int32) (x2 : Int32) (I : Nat → Nat → Int32) (J : Nat → Nat → Int64)
    (h : ((if x2 < x1 then ((80 = 80 ∧ 39 = 39 ∧ mj_isk (mk I J)) ∧ (∃ nx3230 : Nat, (∃ a3231 : Nat, ((I 80 1 = nI nx3230 ∧ nx3230 < 40 ∧ I 80 2 = nI a3231 ∧ a3231 ≤ 40) ∧ (∀ I3232 : Nat → Nat → Int32, (∃ A : Nat → Nat → Int32, wrP I (49 * nx3230) 49 A ∧ fr (fun c _ => c = 80) A I3232 ∧ I3232 80 1 = nI (nxA nx3230) ∧ I3232 80 2 = nI (ctA a3231)) → ((75 = 75 ∧ isCF 26 39 ∧ mj_isk (mk I3232 J)) ∧ (∃ u3234 : Int, (∃ m3235 : Nat, (∃ R3236 : RF, ((u3234 ≤ 1000 ∧ FC u3234 I3232 26 39 ∧ RuC I3232 m3235 R3236) ∧ (∀ I3237 : Nat → Nat → Int32, (VF I3237 39 = passV (nF I3232 39) (lv7 (I3232 (26 + 1))) R3236 (VF I3232 39) (I3232 39 9) ∧ I3237 39 9 = (I3232 39 9) + 1 ∧ fr (fun c k => (39 + 1 ≤ c ∧ c ≤ 39 + 8) ∨ (c = 39 ∧ k = 9) ∨ c = 10 ∨ (76 ≤ c ∧ c ≤ 78)) I3232 I3237) → (mj_G Ω l false mX11_go d 0 0 Φ 0 0 12 ([some (.ref 0), some (.int x1), some (.int (x2 + (1 : Int32)))], [], (mk I3237 J)))))))))))))) else (Φ (some (.int (I 39 9))) (mk I J))))) :
    mj_G Ω l false mX11_go d 0 0 Φ 0 0 12 ([some (.ref 0), some (.int x1), some (.int x2)], [], mk I J) := mj_blk (μ := mX11_go) (P := pX11_go) (cut := cutX11_go) (cs := csX11_go) dX11_go csX11_go_ok hd 30 12 _ h
def csX12_go : List (Nat × Nat × Nat × mj_PT) := [(358, 0, 1, mj_rcv 12 tX12_keep), (364, 0, 2, mj_rcv 12 tX12_areSeconds), (367, 0, 1, mj_rcv 12 tX12_pass)]
theorem csX12_go_ok : mj_Cs mX12_go 9 csX12_go := (mj_CsV (D' := 1) (ci := 12) (q := (RX12, TX12, 45)) sdX12_keep (Nat.le_of_ble_eq_true rfl) fX12_keep rfl rfl iX12_keep vX12_keep (by decide +kernel) l12_358 (mj_CsV (D' := 2) (ci := 12) (q := (RX12, TX12, 45)) sdX12_areSeconds (Nat.le_of_ble_eq_true rfl) fX12_areSeconds rfl rfl iX12_areSeconds vX12_areSeconds (by decide +kernel) l12_364 (mj_CsV (D' := 8) (ci := 12) (q := (RX12, TX12, 45)) sdX12_pass (Nat.le_of_ble_eq_true rfl) fX12_pass rfl rfl iX12_pass vX12_pass (by decide +kernel) l12_367 mj_Cs0)))
def cutX12_go : List (Nat × List Bool) := [(12, [true, true, true])]
set_option maxRecDepth 100000 in
set_option maxHeartbeats 4000000 in
theorem inX12_go {Ω : mj_Om} {l : Launch} {d : Nat} {Φ : Option Value → mj_M → Prop} (hd : 9 ≤ d) (x : Int32) (I : Nat → Nat → Int32) (J : Nat → Nat → Int64)
    (h : ((if (0 : Int32) < (I 91 22) then (if x < (1 : Int32) then (Φ (some (.int (-1 : Int32))) (mk I J)) else (if ((I 104 5) - (I 106 48)) < x then (Φ (some (.int (-1 : Int32))) (mk I J)) else (mj_G Ω l false mX12_go d 0 0 Φ 0 0 12 ([some (.ref 91), some (.int x), some (.int (0 : Int32))], [], (mk I J))))) else (Φ (some (.int (-1 : Int32))) (mk I J))))) :
    mj_Met Ω l false mX12_go d 0 0 [.ref 91, .int x] (mk I J) Φ := mj_entry (by decide) rfl (fun h => (by cases h)) (Nat.le_of_ble_eq_true rfl) (mj_blk (μ := mX12_go) (P := pX12_go) (cut := cutX12_go) (cs := csX12_go) dX12_go csX12_go_ok hd 24 0 _ h)
set_option maxRecDepth 100000 in
set_option maxHeartbeats 4000000 in
theorem bX12_go_12 {Ω : mj_Om} {l : Launch} {d : Nat} {Φ : Option Value → mj_M → Prop} (hd : 9 ≤ d) (x1 : Int32) (x2 : Int32) (I : Nat → Nat → Int32) (J : Nat → Nat → Int64)
    (h : ((if x2 < x1 then ((91 = 91 ∧ mj_isk (mk I J)) ∧ (∃ a3247 : Nat, ((I 91 31 = nI a3247 ∧ a3247 ≤ 40) ∧ (∀ I3248 : Nat → Nat → Int32, (I3248 91 31 = nI (ctA a3247) ∧ (∀ k, k < 49 → I3248 110 (49 * (ctA a3247 - 1) + k) = I 106 k) ∧ (∀ k, k < 49 * (ctA a3247 - 1) → I3248 110 k = if a3247 = 40 then I 110 (k + 49) else I 110 k) ∧ fr (fun c k => c = 110 ∨ (c = 91 ∧ k = 31)) I I3248) → ((91 = 91 ∧ mj_isk (mk I3248 J)) ∧ (∃ u3250 : Int, (∃ m3251 : Nat, (∃ R3252 : RF, ((u3250 ≤ 1000 ∧ FM u3250 I3248 ∧ RuM I3248 m3251 R3252 ∧ hOk (nM I3248) (I3248 91 25)) ∧ (∀ I3253 : Nat → Nat → Int32, (VM I3253 = passG (nM I3248) (lv7 (I3248 104)) R3252 (VM I3248) (I3248 106 48) (I3248 91 25) (I3248 91 26) ∧ I3253 106 48 = (I3248 106 48) + 1 ∧ I3253 91 26 = hsF (I3248 91 25) (I3248 91 26) ∧ fr (fun c k => c = 100 ∨ c = 101 ∨ (c = 106 ∧ k < 49) ∨ c = 107 ∨ c = 108 ∨ c = 109 ∨ (c = 91 ∧ k = 26)) I3248 I3253) → (mj_G Ω l false mX12_go d 0 0 Φ 0 0 12 ([some (.ref 91), some (.int x1), some (.int (x2 + (1 : Int32)))], [], (mk I3253 J))))))))))))) else (Φ (some (.int (I 106 48))) (mk I J))))) :
    mj_G Ω l false mX12_go d 0 0 Φ 0 0 12 ([some (.ref 91), some (.int x1), some (.int x2)], [], mk I J) := mj_blk (μ := mX12_go) (P := pX12_go) (cut := cutX12_go) (cs := csX12_go) dX12_go csX12_go_ok hd 24 12 _ h
def csX11_blow : List (Nat × Nat × Nat × mj_PT) := [(211, 0, 2, mj_rcv 0 tX0_remember), (225, 0, 2, mj_rcv 11 tX11_canPass), (235, 0, 2, mj_rcv 2 tX2_begin), (239, 0, 5, mj_rcv 4 tX4_passGustySecond)]
theorem csX11_blow_ok : mj_Cs mX11_blow 5 csX11_blow := (mj_CsV (D' := 2) (ci := 0) (q := (RX0, TX0, 3)) sdX0_remember (Nat.le_of_ble_eq_true rfl) fX0_remember rfl rfl iX0_remember vX0_remember (by decide +kernel) l11_211 (mj_CsV (D' := 2) (ci := 11) (q := (RX11, TX11, 18)) sdX11_canPass (Nat.le_of_ble_eq_true rfl) fX11_canPass rfl rfl iX11_canPass vX11_canPass (by decide +kernel) l11_225 (mj_CsV (D' := 1) (ci := 2) (q := (RX2, TX2, 1)) sdX2_begin (Nat.le_of_ble_eq_true rfl) fX2_begin rfl rfl iX2_begin vX2_begin (by decide +kernel) l11_235 (mj_CsV (D' := 4) (ci := 4) (q := (RX4, TX4, 4)) sdX4_passGustySecond (Nat.le_of_ble_eq_true rfl) fX4_passGustySecond rfl rfl iX4_passGustySecond vX4_passGustySecond (by decide +kernel) l11_239 mj_Cs0))))
def cutX11_blow : List (Nat × List Bool) := [(21, [true, true, true, false, true])]
set_option maxRecDepth 100000 in
set_option maxHeartbeats 4000000 in
theorem inX11_blow {Ω : mj_Om} {l : Launch} {d : Nat} {Φ : Option Value → mj_M → Prop} (hd : 5 ≤ d) (x : Int32) (y : Int64) (I : Nat → Nat → Int32) (J : Nat → Nat → Int64)
    (h : ((if (0 : Int32) < (I 39 8) then (if x < (1 : Int32) then (Φ (some (.int (-1 : Int32))) (mk I J)) else (if ((I 27 5) - (I 39 9)) < x then (Φ (some (.int (-1 : Int32))) (mk I J)) else (mj_G Ω l false mX11_blow d 0 0 Φ 0 0 21 ([some (.ref 0), some (.int x), some (.long y), none, some (.int (0 : Int32))], [], (mk I (mj_ul J 79 0 y)))))) else (Φ (some (.int (-1 : Int32))) (mk I J))))) :
    mj_Met Ω l false mX11_blow d 0 0 [.ref 0, .int x, .long y] (mk I J) Φ := mj_entry (by decide) rfl (fun h => (by cases h)) (Nat.le_of_ble_eq_true rfl) (mj_blk (μ := mX11_blow) (P := pX11_blow) (cut := cutX11_blow) (cs := csX11_blow) dX11_blow csX11_blow_ok hd 38 0 _ h)
set_option maxRecDepth 100000 in
set_option maxHeartbeats 4000000 in
theorem bX11_blow_21 {Ω : mj_Om} {l : Launch} {d : Nat} {Φ : Option Value → mj_M → Prop} (hd : 5 ≤ d) (x1 : Int32) (x4 : Int32) (y : Int64) (I : Nat → Nat → Int32) (J : Nat → Nat → Int64)
    (h : ((if x4 < x1 then ((80 = 80 ∧ 39 = 39 ∧ mj_isk (mk I J)) ∧ (∃ nx3264 : Nat, (∃ a3265 : Nat, ((I 80 1 = nI nx3264 ∧ nx3264 < 40 ∧ I 80 2 = nI a3265 ∧ a3265 ≤ 40) ∧ (∀ I3266 : Nat → Nat → Int32, (∃ A : Nat → Nat → Int32, wrP I (49 * nx3264) 49 A ∧ fr (fun c _ => c = 80) A I3266 ∧ I3266 80 1 = nI (nxA nx3264) ∧ I3266 80 2 = nI (ctA a3265)) → ((75 = 75 ∧ 79 = 79 ∧ isCF 26 39 ∧ mj_isk (mk I3266 J)) ∧ (∃ u3268 : Int, (∃ m3269 : Nat, (∃ R3270 : RF, ((u3268 ≤ 1000 ∧ FC u3268 I3266 26 39 ∧ RuC I3266 m3269 R3270) ∧ (∀ I3271 : Nat → Nat → Int32, ∀ J3272 : Nat → Nat → Int64, ((VF I3271 39, J3272 79 0) = (moveV (nF I3266 39) (lv7 (I3266 (26 + 1))) (shV (nF I3266 39) (VF I3266 39)) ((VF I3266 39) 1) (gustN (I3266 0 17) (nF I3266 39) (askV (nF I3266 39) (lv7 (I3266 (26 + 1))) R3270 (VF I3266 39) (I3266 39 9) (-1), J 79 0)).1 (I3266 39 9), (gustN (I3266 0 17) (nF I3266 39) (askV (nF I3266 39) (lv7 (I3266 (26 + 1))) R3270 (VF I3266 39) (I3266 39 9) (-1), J 79 0)).2) ∧ (∃ y, J3272 = mj_ul J 79 0 y) ∧ I3271 39 9 = (I3266 39 9) + 1 ∧ fr (fun c k => (39 + 1 ≤ c ∧ c ≤ 39 + 8) ∨ (c = 39 ∧ k = 9) ∨ c = 10 ∨ (76 ≤ c ∧ c ≤ 78)) I3266 I3271) → (mj_G Ω l false mX11_blow d 0 0 Φ 0 0 21 ([some (.ref 0), some (.int x1), some (.long y), none, some (.int (x4 + (1 : Int32)))], [], (mk I3271 J3272)))))))))))))) else (Φ (some (.int (I 39 9))) (mk I J))))) :
    mj_G Ω l false mX11_blow d 0 0 Φ 0 0 21 ([some (.ref 0), some (.int x1), some (.long y), none, some (.int x4)], [], mk I J) := mj_blk (μ := mX11_blow) (P := pX11_blow) (cut := cutX11_blow) (cs := csX11_blow) dX11_blow csX11_blow_ok hd 38 21 _ h
def csX12_blow : List (Nat × Nat × Nat × mj_PT) := [(340, 0, 3, mj_rcv 12 tX12_fasterS), (352, 0, 1, mj_rcv 12 tX12_speedAll), (355, 0, 1, mj_rcv 12 tX12_goAll), (358, 0, 1, mj_rcv 12 tX12_keep), (364, 0, 2, mj_rcv 12 tX12_areSeconds), (378, 0, 2, mj_rcv 12 tX12_drawS)]
theorem csX12_blow_ok : mj_Cs mX12_blow 8 csX12_blow := (mj_CsV (D' := 2) (ci := 12) (q := (RX12, TX12, 45)) sdX12_fasterS (Nat.le_of_ble_eq_true rfl) fX12_faster rfl rfl iX12_faster vX12_faster (by decide +kernel) l12_340 (mj_CsV (D' := 7) (ci := 12) (q := (RX12, TX12, 45)) sdX12_speedAll (Nat.le_of_ble_eq_true rfl) fX12_speedAll rfl rfl iX12_speedAll vX12_speedAll (by decide +kernel) l12_352 (mj_CsV (D' := 4) (ci := 12) (q := (RX12, TX12, 45)) sdX12_goAll (Nat.le_of_ble_eq_true rfl) fX12_goAll rfl rfl iX12_goAll vX12_goAll (by decide +kernel) l12_355 (mj_CsV (D' := 1) (ci := 12) (q := (RX12, TX12, 45)) sdX12_keep (Nat.le_of_ble_eq_true rfl) fX12_keep rfl rfl iX12_keep vX12_keep (by decide +kernel) l12_358 (mj_CsV (D' := 2) (ci := 12) (q := (RX12, TX12, 45)) sdX12_areSeconds (Nat.le_of_ble_eq_true rfl) fX12_areSeconds rfl rfl iX12_areSeconds vX12_areSeconds (by decide +kernel) l12_364 (mj_CsV (D' := 1) (ci := 12) (q := (RX12, TX12, 45)) sdX12_drawS (Nat.le_of_ble_eq_true rfl) fX12_draw rfl rfl iX12_draw vX12_draw (by decide +kernel) l12_378 mj_Cs0))))))
def cutX12_blow : List (Nat × List Bool) := [(18, [true, true, true, false, true, false]), (36, [true, true, true, false, true, true])]
set_option maxRecDepth 100000 in
set_option maxHeartbeats 4000000 in
theorem inX12_blow {Ω : mj_Om} {l : Launch} {d : Nat} {Φ : Option Value → mj_M → Prop} (hd : 8 ≤ d) (x : Int32) (y : Int64) (I : Nat → Nat → Int32) (J : Nat → Nat → Int64)
    (h : ((if (0 : Int32) < (I 91 22) then (if x < (1 : Int32) then (Φ (some (.int (-1 : Int32))) (mk I J)) else (if ((I 104 5) - (I 106 48)) < x then (Φ (some (.int (-1 : Int32))) (mk I J)) else (mj_G Ω l false mX12_blow d 0 0 Φ 0 0 18 ([some (.ref 91), some (.int x), some (.long y), none, some (.int (0 : Int32)), none], [], (mk I (mj_ul J 91 32 y)))))) else (Φ (some (.int (-1 : Int32))) (mk I J))))) :
    mj_Met Ω l false mX12_blow d 0 0 [.ref 91, .int x, .long y] (mk I J) Φ := mj_entry (by decide) rfl (fun h => (by cases h)) (Nat.le_of_ble_eq_true rfl) (mj_blk (μ := mX12_blow) (P := pX12_blow) (cut := cutX12_blow) (cs := csX12_blow) dX12_blow csX12_blow_ok hd 53 0 _ h)
set_option maxRecDepth 100000 in
set_option maxHeartbeats 4000000 in
theorem bX12_blow_18 {Ω : mj_Om} {l : Launch} {d : Nat} {Φ : Option Value → mj_M → Prop} (hd : 8 ≤ d) (x1 : Int32) (x4 : Int32) (y : Int64) (I : Nat → Nat → Int32) (J : Nat → Nat → Int64)
    (h : ((if x4 < x1 then ((91 = 91 ∧ mj_isk (mk I J)) ∧ (∃ a3293 : Nat, ((I 91 31 = nI a3293 ∧ a3293 ≤ 40) ∧ (∀ I3294 : Nat → Nat → Int32, (I3294 91 31 = nI (ctA a3293) ∧ (∀ k, k < 49 → I3294 110 (49 * (ctA a3293 - 1) + k) = I 106 k) ∧ (∀ k, k < 49 * (ctA a3293 - 1) → I3294 110 k = if a3293 = 40 then I 110 (k + 49) else I 110 k) ∧ fr (fun c k => c = 110 ∨ (c = 91 ∧ k = 31)) I I3294) → ((91 = 91 ∧ mj_isk (mk I3294 J)) ∧ (∃ u3296 : Int, (∃ m3297 : Nat, (∃ R3298 : RF, ((u3296 ≤ 1000 ∧ FM u3296 I3294 ∧ RuM I3294 m3297 R3298 ∧ hOk (nM I3294) (I3294 91 25)) ∧ (∀ I3299 : Nat → Nat → Int32, (VM I3299 = spdV (nM I3294) (lv7 (I3294 104)) R3298 (VM I3294) (I3294 106 48) (I3294 91 25) (I3294 91 26) ∧ (∀ b, b < nM I3294 → I3299 107 b = shV (nM I3294) (VM I3294) b ∧ I3299 108 b = (VM I3294) 1 b) ∧ I3299 91 26 = hsF (I3294 91 25) (I3294 91 26) ∧ (∀ b, b < nM I3294 → spB (VM I3299) b) ∧ fr (fun c k => c = 100 ∨ c = 101 ∨ (c = 106 ∧ k < 48) ∨ c = 107 ∨ c = 108 ∨ c = 109 ∨ (c = 91 ∧ k = 26)) I3294 I3299) → (mj_G Ω l false mX12_blow d 0 0 Φ 0 0 36 ([some (.ref 91), some (.int x1), some (.long y), none, some (.int x4), some (.int (0 : Int32))], [], (mk I3299 J))))))))))))) else (Φ (some (.int (I 106 48))) (mk I J))))) :
    mj_G Ω l false mX12_blow d 0 0 Φ 0 0 18 ([some (.ref 91), some (.int x1), some (.long y), none, some (.int x4), none], [], mk I J) := mj_blk (μ := mX12_blow) (P := pX12_blow) (cut := cutX12_blow) (cs := csX12_blow) dX12_blow csX12_blow_ok hd 53 18 _ h
set_option maxRecDepth 100000 in
set_option maxHeartbeats 4000000 in
theorem bX12_blow_36 {Ω : mj_Om} {l : Launch} {d : Nat} {Φ : Option Value → mj_M → Prop} (hd : 8 ≤ d) (x1 : Int32) (x4 : Int32) (x5 : Int32) (y : Int64) (I : Nat → Nat → Int32) (J : Nat → Nat → Int64)
    (h : ((if x5 < (I 91 22) then ((91 = 91 ∧ mj_isk (mk I J)) ∧ ((0 < ((100 : Int32)).toInt) ∧ (∀ I3301 : Nat → Nat → Int32, ∀ J3302 : Nat → Nat → Int64, (I = I3301 ∧ mj_ul J 91 32 (nxJ (J 91 32)) = J3302) → (if (drw (nxJ (J 91 32)) (100 : Int32)) < (I3301 91 24) then ((91 = 91 ∧ mj_isk (mk I3301 J3302)) ∧ ((0 < ((2 : Int32)).toInt) ∧ (∀ I3303 : Nat → Nat → Int32, ∀ J3304 : Nat → Nat → Int64, (I3301 = I3303 ∧ mj_ul J3302 91 32 (nxJ (J3302 91 32)) = J3304) → (if (drw (nxJ (J3302 91 32)) (2 : Int32)) = (0 : Int32) then ((91 = 91 ∧ mj_isk (mk I3303 J3304)) ∧ (∃ b3305 : Nat, x5 = nI b3305 ∧ ((okM I3303 ∧ b3305 < nM I3303 ∧ spB (VM I3303) b3305 ∧ ((-1 : Int32) = -1 ∨ (-1 : Int32) = 0 ∨ (-1 : Int32) = 1)) ∧ (∀ I3306 : Nat → Nat → Int32, (VM I3306 = vup (VM I3303) 2 b3305 (asp (VM I3303 2 b3305) (VM I3303 3 b3305) (-1 : Int32)) ∧ fr (fun c k => c = 106 ∧ k < 48) I3303 I3306) → (mj_G Ω l false mX12_blow d 0 0 Φ 0 0 36 ([some (.ref 91), some (.int x1), some (.long y), none, some (.int x4), some (.int (x5 + (1 : Int32)))], [], (mk I3306 J3304))))))) else ((91 = 91 ∧ mj_isk (mk I3303 J3304)) ∧ (∃ b3308 : Nat, x5 = nI b3308 ∧ ((okM I3303 ∧ b3308 < nM I3303 ∧ spB (VM I3303) b3308 ∧ ((1 : Int32) = -1 ∨ (1 : Int32) = 0 ∨ (1 : Int32) = 1)) ∧ (∀ I3309 : Nat → Nat → Int32, (VM I3309 = vup (VM I3303) 2 b3308 (asp (VM I3303 2 b3308) (VM I3303 3 b3308) (1 : Int32)) ∧ fr (fun c k => c = 106 ∧ k < 48) I3303 I3309) → (mj_G Ω l false mX12_blow d 0 0 Φ 0 0 36 ([some (.ref 91), some (.int x1), some (.long y), none, some (.int x4), some (.int (x5 + (1 : Int32)))], [], (mk I3309 J3304))))))))))) else (mj_G Ω l false mX12_blow d 0 0 Φ 0 0 36 ([some (.ref 91), some (.int x1), some (.long y), none, some (.int x4), some (.int (x5 + (1 : Int32)))], [], (mk I3301 J3302))))))) else ((91 = 91 ∧ mj_isk (mk I J)) ∧ ((okM I ∧ lineOk (lv7 (I 104)) ∧ (∀ b, b < nM I → (I 107 b = 0 ∨ I 107 b = 1)) ∧ (∀ b, b < nM I → spB (VM I) b)) ∧ (∀ I3311 : Nat → Nat → Int32, (VM I3311 = moveV (nM I) (lv7 (I 104)) (I 107) (I 108) (VM I) (I 106 48) ∧ I3311 106 48 = I 106 48 + 1 ∧ fr (fun c k => c = 106 ∧ k < 49) I I3311) → (mj_G Ω l false mX12_blow d 0 0 Φ 0 0 18 ([some (.ref 91), some (.int x1), some (.long y), none, some (.int (x4 + (1 : Int32))), none], [], (mk I3311 J))))))))) :
    mj_G Ω l false mX12_blow d 0 0 Φ 0 0 36 ([some (.ref 91), some (.int x1), some (.long y), none, some (.int x4), some (.int x5)], [], mk I J) := mj_blk (μ := mX12_blow) (P := pX12_blow) (cut := cutX12_blow) (cs := csX12_blow) dX12_blow csX12_blow_ok hd 53 36 _ h
set_option maxHeartbeats 8000000 in
theorem two_go {Ω : mj_Om} {l : Launch} {I : Nat → Nat → Int32} {J : Nat → Nat → Int64} (x : Int32) (h : Rel I) : Two Ω l mX11_go mX12_go [.int x] I J := by
  obtain ⟨w1, w2, w3, w4, w5⟩ := id h.2.2.1
  have hn8 := w1.2
  obtain ⟨m, K, k1, k2⟩ := id h.2.1
  have hq := Rel_c3 h k1 k2
  refine inX11_go (Nat.le_of_ble_eq_true rfl) x I J ?_
  rw [w1.1]
  have no : ∀ J1 : Nat → Nat → Int64, ¬ (0 < nF I 39 ∧ ¬ x < 1 ∧ ¬ I 27 5 - I 39 9 < x) → TwoE Ω l mX12_go [.int x] (some (.int (-1))) (mk I J1) := fun J1 q => by
    refine ⟨_, I, J1, rfl, rfl, inX12_go (Nat.le_of_ble_eq_true rfl) x I J1 ?_⟩
    rw [w2.1, w3]
    by_cases q0 : 0 < nF I 39
    case neg => rw [if_neg (show ¬ (0 : Int32) < nI _ from nnl (a := 0) (by omega) (by omega))]; exact ⟨I, J1, rfl, rfl, h⟩
    rw [if_pos (show (0 : Int32) < nI _ from nlt (a := 0) q0 (by omega))]
    have f5 : I 104 5 = I 27 5 := by have := congrFun (w5 q0).1 5; unfold lv7 at this; rw [if_pos (by decide), if_pos (by decide)] at this; exact this
    rw [f5, w4]
    by_cases q1 : x < 1
    · rw [if_pos q1]; exact ⟨I, J1, rfl, rfl, h⟩
    rw [if_neg q1]
    by_cases q2 : I 27 5 - I 39 9 < x
    · rw [if_pos q2]; exact ⟨I, J1, rfl, rfl, h⟩
    exact absurd ⟨q0, q1, q2⟩ q
  by_cases q0 : 0 < nF I 39
  case neg => rw [if_neg (show ¬ (0 : Int32) < nI _ from nnl (a := 0) (by omega) (by omega))]; exact no J (fun w => q0 w.1)
  rw [if_pos (show (0 : Int32) < nI _ from nlt (a := 0) q0 (by omega))]
  by_cases q1 : x < 1
  · rw [if_pos q1]; exact no J (fun w => w.2.1 q1)
  rw [if_neg q1]
  by_cases q2 : I 27 5 - I 39 9 < x
  · rw [if_pos q2]; exact no J (fun w => w.2.2 q2)
  rw [if_neg q2]
  obtain ⟨x1, x2, x3, -⟩ := w5 q0
  have f5 : I 104 5 = I 27 5 := by have := congrFun x1 5; unfold lv7 at this; rw [if_pos (by decide), if_pos (by decide)] at this; exact this
  have l5 : lv7 (I 27) 5 = I 27 5 := if_pos (by decide)
  obtain ⟨c5, s0⟩ : (1 ≤ (I 27 5).toInt ∧ (I 27 5).toInt ≤ 60) ∧ (0 ≤ (I 39 9).toInt ∧ (I 39 9).toInt ≤ (I 27 5).toInt) := by
    have a := x3.1.2.2.2.2.2.1
    have b := x3.2.1
    rw [l5] at a b
    exact ⟨a, b⟩
  obtain ⟨k, rfl, hk1, hk2⟩ := can c5 s0 q1 q2
  generalize hnn : nF I 39 = n at *
  generalize hCC : lv7 (I 27) = C at *
  have C5 : (C 5).toInt = (I 27 5).toInt := by rw [l5]
  generalize hRR : rfK m K = R at *
  obtain ⟨a0, nx0, g1, g2, g3, g4, g5⟩ := relA_g h
  refine lp_inv (σ := Nat → Nat → Int32) (n := k) (G := fun i A => mj_G Ω l false mX11_go 60 0 0 (TwoE Ω l mX12_go [.int (nI k)]) 0 0 12 ([some (.ref 0), some (.int (nI k)), some (.int (nI i))], [], mk A J)) (fun i A => clI I n C m R i A ∧ chain (stKC (goP n C R)) i (I, 0) (A, 0)) (fun i A hi hI hk => ?_) (fun A hI => ?_) k 0 I (by omega) ⟨⟨w1, hnn, hCC, hq.1.2.1, x3, by omega, ⟨nx0, a0, g5, g2, g3, g1⟩, fr_rf⟩, rfl⟩
  · obtain ⟨cl, ch⟩ := hI
    obtain ⟨nx, a, b1, b2, b3, b4⟩ := cl.2.2.2.2.2.2.1
    have hs : (A 39 9).toInt < (C 5).toInt := by rw [cl.2.2.2.2.2.1, C5]; omega
    refine bX11_go_12 (Nat.le_of_ble_eq_true rfl) (nI k) (nI i) A J ?_
    rw [if_pos (nlt hi (by omega)), jn_succ]
    refine ⟨⟨by trivial, by trivial, mj_isk_mk _ _⟩, nx, a, ⟨b1, b2, b3, b4⟩, fun A1 hr => ?_⟩
    obtain ⟨e1, e2, e3, e4, e5, e6, e7⟩ := clI_rem cl hr
    refine ⟨⟨by trivial, by unfold isCF; omega, mj_isk_mk _ _⟩, 19, m, R, ⟨by decide, e1, e2⟩, fun B hB => ?_⟩
    obtain ⟨f1, f2, f3⟩ := hB
    change VF B 39 = passV (nF A1 39) (lv7 (A1 27)) R (VF A1 39) (A1 39 9) at f1
    rw [e3, e4, e5, e6] at f1
    rw [e6] at f2
    have f3' : fr paF A1 B := fr_mo f3 (fun c k w => by unfold paF; omega)
    exact hk B ⟨clI_up cl b2 b4 hr f1 (FOk_pass hn8 cl.2.2.2.2.1 hs) f2 (by omega) f3', ⟨(A, 0), ch, A1, nx, a, b1, b2, b3, b4, hr, by rw [f1]; rfl, f2, f3'⟩⟩
  · obtain ⟨cl, ch⟩ := hI
    refine bX11_go_12 (Nat.le_of_ble_eq_true rfl) (nI k) (nI k) A J ?_
    rw [if_neg Int32.lt_irrefl]
    have lo := clF_lo cl.2.2.2.2.2.2.2
    obtain ⟨m1, m2, m3, m4, m5⟩ := qM_hi hq.2 lo
    refine ⟨_, A, J, rfl, rfl, inX12_go (Nat.le_of_ble_eq_true rfl) (nI k) A J ?_⟩
    rw [lo 91 22 (by omega), w2.1, w3, if_pos (show (0 : Int32) < nI _ from nlt (a := 0) q0 (by omega)), if_neg q1, lo 104 5 (by omega), lo 106 48 (by omega), f5, w4, if_neg q2]
    have r0 : rlI A n C m R 0 A := ⟨m1.1, by rw [m2, w3], by rw [m4, x1], m1.2.1, by rw [m3, x2, m5, w4]; exact x3, by omega, m1.2.2.2.1, m1.2.2.2.2, ⟨a0, by rw [lo 91 31 (by omega)]; exact g4, g1⟩, fr_rf⟩
    have s0' : (A 106 48).toInt = (I 39 9).toInt := by rw [m5, w4]
    refine lp_inv (σ := Nat → Nat → Int32) (n := k) (G := fun i B => mj_G Ω l false mX12_go 60 0 0 (fun r' M' => ∃ (I2 : Nat → Nat → Int32) (J2 : Nat → Nat → Int64), r' = some (.int (A 39 9)) ∧ M' = mk I2 J2 ∧ Rel I2) 0 0 12 ([some (.ref 91), some (.int (nI k)), some (.int (nI i))], [], mk B J)) (fun i B => rlI A n C m R i B ∧ chain (stKM (goP n C R)) i (A, 0) (B, 0)) (fun i B hi hI hk => ?_) (fun B hI => ?_) k 0 A (by omega) ⟨r0, rfl⟩
    · obtain ⟨rl, rh⟩ := hI
      obtain ⟨a, b1, b2⟩ := rl.2.2.2.2.2.2.2.2.1
      have hs : (B 106 48).toInt < (C 5).toInt := by rw [rl.2.2.2.2.2.1, C5, s0']; omega
      refine bX12_go_12 (Nat.le_of_ble_eq_true rfl) (nI k) (nI i) B J ?_
      rw [if_pos (nlt hi (by omega)), jn_succ]
      refine ⟨⟨by trivial, mj_isk_mk _ _⟩, a, ⟨b1, b2⟩, fun B1 hr => ?_⟩
      obtain ⟨e1, e2, e3, e4, e5, e6, e7, e8⟩ := rlI_kp rl hr
      refine ⟨⟨by trivial, mj_isk_mk _ _⟩, 19, m, R, ⟨by decide, e1, e2, by rw [e7]; exact Or.inl rfl⟩, fun D hD => ?_⟩
      obtain ⟨f1, f2, f3, f4⟩ := hD
      rw [e3, e4, e5, e6, e7, passG_m] at f1
      rw [e6] at f2
      rw [e7, e8, hsF_m] at f3
      have f4' : fr paM B1 D := fr_mo f4 (fun c k w => by unfold paM; omega)
      exact hk D ⟨rlI_up rl b2 hr f1 (FOk_pass hn8 rl.2.2.2.2.1 hs) f2 f3 (by omega) f4', ⟨(B, 0), rh, B1, a, b1, b2, hr, by rw [f1]; rfl, f2, f3, f4'⟩⟩
    · obtain ⟨rl, rh⟩ := hI
      refine bX12_go_12 (Nat.le_of_ble_eq_true rfl) (nI k) (nI k) B J ?_
      rw [if_neg Int32.lt_irrefl]
      obtain ⟨j1, -, -, -, -⟩ := hyb_chain q0 (goP_ok hn8) k I A A B 0 0 0 ch rh (by rw [hyb_a lo]; exact h) hnn hCC (by omega)
      have hi := rlF_hi rl.2.2.2.2.2.2.2.2.2
      rw [hyb_b hi] at j1
      have j4 := j1.2.2.1.2.2.2.1
      rw [hi 39 9 (by omega)] at j4
      exact ⟨B, J, by rw [j4], rfl, j1⟩
