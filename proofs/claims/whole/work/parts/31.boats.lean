/-! ===== boats: who is where (by program, wip/whole/pa.py) ===== -/
def csX3_isHeld : List (Nat × Nat × Nat × mj_PT) := []
theorem csX3_isHeld_ok : mj_Cs mX3_isHeld 1 csX3_isHeld := mj_Cs0
def cutX3_isHeld : List (Nat × List Bool) := [(2, [true, true, true, true])]
set_option maxRecDepth 100000 in
set_option maxHeartbeats 4000000 in
theorem inX3_isHeld {Ω : mj_Om} {l : Launch} {d : Nat} {Φ : Option Value → mj_M → Prop} (hd : 1 ≤ d) (f : Nat) (hf : isF3 f) (x : Int32) (y : Int32) (I : Nat → Nat → Int32) (J : Nat → Nat → Int64)
    (h : ((mj_G Ω l false mX3_isHeld d 0 0 Φ 0 0 2 ([some (.ref f), some (.int x), some (.int y), some (.int (0 : Int32))], [], (mk I J))))) :
    mj_Met Ω l false mX3_isHeld d 0 0 [.ref f, .int x, .int y] (mk I J) Φ := by
  rcases hf with rfl | rfl | rfl <;> exact mj_entry (by decide) rfl (fun h => (by cases h)) (Nat.le_of_ble_eq_true rfl) (mj_blk (μ := mX3_isHeld) (P := pX3_isHeld) (cut := cutX3_isHeld) (cs := csX3_isHeld) dX3_isHeld csX3_isHeld_ok hd 25 0 _ h)
set_option maxRecDepth 100000 in
set_option maxHeartbeats 4000000 in
theorem bX3_isHeld_2 {Ω : mj_Om} {l : Launch} {d : Nat} {Φ : Option Value → mj_M → Prop} (hd : 1 ≤ d) (f : Nat) (hf : isF3 f) (x1 : Int32) (x2 : Int32) (x3 : Int32) (I : Nat → Nat → Int32) (J : Nat → Nat → Int64)
    (h : ((if x3 < (I f 8) then (mj_gd (mj_inB x3 8) (if (I (f + 1) (x3).toNatClampNeg) = x1 then (mj_gd (mj_inB x3 8) (if (I (f + 2) (x3).toNatClampNeg) = x2 then (Φ (some (.int (1 : Int32))) (mk I J)) else (mj_G Ω l false mX3_isHeld d 0 0 Φ 0 0 2 ([some (.ref f), some (.int x1), some (.int x2), some (.int (x3 + (1 : Int32)))], [], (mk I J))))) else (mj_G Ω l false mX3_isHeld d 0 0 Φ 0 0 2 ([some (.ref f), some (.int x1), some (.int x2), some (.int (x3 + (1 : Int32)))], [], (mk I J))))) else (Φ (some (.int (0 : Int32))) (mk I J))))) :
    mj_G Ω l false mX3_isHeld d 0 0 Φ 0 0 2 ([some (.ref f), some (.int x1), some (.int x2), some (.int x3)], [], mk I J) := by
  rcases hf with rfl | rfl | rfl <;> exact mj_blk (μ := mX3_isHeld) (P := pX3_isHeld) (cut := cutX3_isHeld) (cs := csX3_isHeld) dX3_isHeld csX3_isHeld_ok hd 25 2 _ h
def tX3_isHeld : mj_PT := fun as M Φ => match as with
  | [.ref this, .int x, .int y] => (isF3 this ∧ mj_isk M) ∧ (okF M.2.2.1 this) ∧ Φ (some (.int (b2i (held (nF M.2.2.1 this) (VF M.2.2.1 this) x y)))) M
  | _ => False
theorem mnX3_isHeld {Ω : mj_Om} {l : Launch} {d : Nat} {Φ : Option Value → mj_M → Prop} (hd : 1 ≤ d) (f : Nat) (hf : isF3 f) (x : Int32) (y : Int32) (I : Nat → Nat → Int32) (J : Nat → Nat → Int64) (hp : okF I f) (h : Φ (some (.int (b2i (held (nF I f) (VF I f) x y)))) (mk I J)) : mj_Met Ω l false mX3_isHeld d 0 0 [.ref f, .int x, .int y] (mk I J) Φ := by
  refine inX3_isHeld hd f hf x y I J ?_
  obtain ⟨hc, hn⟩ := hp
  refine lp_any (G := fun i => mj_G Ω l false mX3_isHeld d 0 0 Φ 0 0 2 ([some (.ref f), some (.int x), some (.int y), some (.int (nI i))], [], mk I J)) (Ψ := fun r => Φ (some (.int r)) (mk I J)) (n := nF I f) (fun i => VF I f 0 i = x ∧ VF I f 1 i = y) (fun i hi h1 h0 => ?_) (fun hB => ?_) h
  · refine bX3_isHeld_2 hd f hf x y (nI i) I J ?_
    rw [VF_0 hi, VF_1 hi] at h1 h0
    simp (disch := omega) only [hc, jn_lt, jn_le, jn_eq, jn_cl, jn_in, jn_succ, gd_dec, if_pos, if_neg, n6_0, n6_1, n6_2, n6_3, n6_4, n6_5]
    repeat' split
    all_goals first
      | exact h1 (by (repeat' apply And.intro) <;> assumption)
      | exact h0 (by rintro ⟨q0, q1⟩; contradiction)
  · refine bX3_isHeld_2 hd f hf x y (nI (nF I f)) I J ?_
    simp (disch := omega) only [hc, jn_lt, jn_le, jn_eq, jn_cl, jn_in, jn_succ, gd_dec, if_pos, if_neg, n6_0, n6_1, n6_2, n6_3, n6_4, n6_5]
    exact hB
theorem sdX3_isHeld : mj_Sd mX3_isHeld 1 tX3_isHeld := by
  intro Ω l d hd as M Φ h
  unfold tX3_isHeld at h
  split at h
  · rename_i f x y
    obtain ⟨⟨hf, hM⟩, hp, h⟩ := h
    rw [mj_isk_of hM]
    exact mnX3_isHeld hd f hf x y _ _ hp (by
      rw [mj_isk_of hM] at h
      exact h)
  · exact h.elim
def csX12_isHeld : List (Nat × Nat × Nat × mj_PT) := [(283, 0, 3, mj_rcv 12 tX12_of)]
theorem csX12_isHeld_ok : mj_Cs mX12_isHeld 2 csX12_isHeld := (mj_CsV (D' := 1) (ci := 12) (q := (RX12, TX12, 45)) sdX12_of (Nat.le_of_ble_eq_true rfl) fX12_of rfl rfl iX12_of vX12_of (by decide +kernel) l12_283 mj_Cs0)
def cutX12_isHeld : List (Nat × List Bool) := [(2, [true, true, true, true])]
set_option maxRecDepth 100000 in
set_option maxHeartbeats 4000000 in
theorem inX12_isHeld {Ω : mj_Om} {l : Launch} {d : Nat} {Φ : Option Value → mj_M → Prop} (hd : 2 ≤ d) (x : Int32) (y : Int32) (I : Nat → Nat → Int32) (J : Nat → Nat → Int64)
    (h : ((mj_G Ω l false mX12_isHeld d 0 0 Φ 0 0 2 ([some (.ref 91), some (.int x), some (.int y), some (.int (0 : Int32))], [], (mk I J))))) :
    mj_Met Ω l false mX12_isHeld d 0 0 [.ref 91, .int x, .int y] (mk I J) Φ := mj_entry (by decide) rfl (fun h => (by cases h)) (Nat.le_of_ble_eq_true rfl) (mj_blk (μ := mX12_isHeld) (P := pX12_isHeld) (cut := cutX12_isHeld) (cs := csX12_isHeld) dX12_isHeld csX12_isHeld_ok hd 25 0 _ h)
set_option maxRecDepth 100000 in
set_option maxHeartbeats 4000000 in
theorem bX12_isHeld_2 {Ω : mj_Om} {l : Launch} {d : Nat} {Φ : Option Value → mj_M → Prop} (hd : 2 ≤ d) (x1 : Int32) (x2 : Int32) (x3 : Int32) (I : Nat → Nat → Int32) (J : Nat → Nat → Int64)
    (h : ((if x3 < (I 91 22) then (mj_gd (mj_inB (((6 : Int32) * x3) + (0 : Int32)) 49) (if (I 106 ((((6 : Int32) * x3) + (0 : Int32))).toNatClampNeg) = x1 then (mj_gd (mj_inB (((6 : Int32) * x3) + (1 : Int32)) 49) (if (I 106 ((((6 : Int32) * x3) + (1 : Int32))).toNatClampNeg) = x2 then (Φ (some (.int (1 : Int32))) (mk I J)) else (mj_G Ω l false mX12_isHeld d 0 0 Φ 0 0 2 ([some (.ref 91), some (.int x1), some (.int x2), some (.int (x3 + (1 : Int32)))], [], (mk I J))))) else (mj_G Ω l false mX12_isHeld d 0 0 Φ 0 0 2 ([some (.ref 91), some (.int x1), some (.int x2), some (.int (x3 + (1 : Int32)))], [], (mk I J))))) else (Φ (some (.int (0 : Int32))) (mk I J))))) :
    mj_G Ω l false mX12_isHeld d 0 0 Φ 0 0 2 ([some (.ref 91), some (.int x1), some (.int x2), some (.int x3)], [], mk I J) := mj_blk (μ := mX12_isHeld) (P := pX12_isHeld) (cut := cutX12_isHeld) (cs := csX12_isHeld) dX12_isHeld csX12_isHeld_ok hd 25 2 _ h
def tX12_isHeld : mj_PT := fun as M Φ => match as with
  | [.ref this, .int x, .int y] => (this = 91 ∧ mj_isk M) ∧ (okM M.2.2.1) ∧ Φ (some (.int (b2i (held (nM M.2.2.1) (VM M.2.2.1) x y)))) M
  | _ => False
theorem mnX12_isHeld {Ω : mj_Om} {l : Launch} {d : Nat} {Φ : Option Value → mj_M → Prop} (hd : 2 ≤ d) (x : Int32) (y : Int32) (I : Nat → Nat → Int32) (J : Nat → Nat → Int64) (hp : okM I) (h : Φ (some (.int (b2i (held (nM I) (VM I) x y)))) (mk I J)) : mj_Met Ω l false mX12_isHeld d 0 0 [.ref 91, .int x, .int y] (mk I J) Φ := by
  refine inX12_isHeld hd x y I J ?_
  obtain ⟨hc, hn⟩ := hp
  refine lp_any (G := fun i => mj_G Ω l false mX12_isHeld d 0 0 Φ 0 0 2 ([some (.ref 91), some (.int x), some (.int y), some (.int (nI i))], [], mk I J)) (Ψ := fun r => Φ (some (.int r)) (mk I J)) (n := nM I) (fun i => VM I 0 i = x ∧ VM I 1 i = y) (fun i hi h1 h0 => ?_) (fun hB => ?_) h
  · refine bX12_isHeld_2 hd x y (nI i) I J ?_
    rw [VM_0 hi, VM_1 hi] at h1 h0
    simp (disch := omega) only [hc, jn_lt, jn_le, jn_eq, jn_cl, jn_in, jn_succ, gd_dec, if_pos, if_neg, n6_0, n6_1, n6_2, n6_3, n6_4, n6_5]
    repeat' split
    all_goals first
      | exact h1 (by (repeat' apply And.intro) <;> assumption)
      | exact h0 (by rintro ⟨q0, q1⟩; contradiction)
  · refine bX12_isHeld_2 hd x y (nI (nM I)) I J ?_
    simp (disch := omega) only [hc, jn_lt, jn_le, jn_eq, jn_cl, jn_in, jn_succ, gd_dec, if_pos, if_neg, n6_0, n6_1, n6_2, n6_3, n6_4, n6_5]
    exact hB
theorem sdX12_isHeld : mj_Sd mX12_isHeld 2 tX12_isHeld := by
  intro Ω l d hd as M Φ h
  unfold tX12_isHeld at h
  split at h
  · rename_i z0 x y
    obtain ⟨⟨rfl, hM⟩, hp, h⟩ := h
    rw [mj_isk_of hM]
    exact mnX12_isHeld hd x y _ _ hp (by
      rw [mj_isk_of hM] at h
      exact h)
  · exact h.elim
def csX3_isShadowed : List (Nat × Nat × Nat × mj_PT) := [(63, 0, 3, mj_rcv 3 tX3_isBeside)]
theorem csX3_isShadowed_ok : mj_Cs mX3_isShadowed 2 csX3_isShadowed := (mj_CsV (D' := 1) (ci := 3) (q := (RX3, TX3, 10)) sdX3_isBeside (Nat.le_of_ble_eq_true rfl) fX3_isBeside rfl rfl iX3_isBeside vX3_isBeside (by decide +kernel) l3_63 mj_Cs0)
def cutX3_isShadowed : List (Nat × List Bool) := [(2, [true, true, true, false])]
set_option maxRecDepth 100000 in
set_option maxHeartbeats 4000000 in
theorem inX3_isShadowed {Ω : mj_Om} {l : Launch} {d : Nat} {Φ : Option Value → mj_M → Prop} (hd : 2 ≤ d) (f : Nat) (hf : isF3 f) (b : Int32) (I : Nat → Nat → Int32) (J : Nat → Nat → Int64)
    (h : ((mj_G Ω l false mX3_isShadowed d 0 0 Φ 0 0 2 ([some (.ref f), some (.int b), some (.int (0 : Int32)), none], [], (mk I J))))) :
    mj_Met Ω l false mX3_isShadowed d 0 0 [.ref f, .int b] (mk I J) Φ := by
  rcases hf with rfl | rfl | rfl <;> exact mj_entry (by decide) rfl (fun h => (by cases h)) (Nat.le_of_ble_eq_true rfl) (mj_blk (μ := mX3_isShadowed) (P := pX3_isShadowed) (cut := cutX3_isShadowed) (cs := csX3_isShadowed) dX3_isShadowed csX3_isShadowed_ok hd 34 0 _ h)
set_option maxRecDepth 100000 in
set_option maxHeartbeats 4000000 in
theorem bX3_isShadowed_2 {Ω : mj_Om} {l : Launch} {d : Nat} {Φ : Option Value → mj_M → Prop} (hd : 2 ≤ d) (f : Nat) (hf : isF3 f) (x1 : Int32) (x2 : Int32) (I : Nat → Nat → Int32) (J : Nat → Nat → Int64)
    (h : ((if x2 < (I f 8) then (mj_gd (mj_inB x1 8) (mj_gd (mj_inB x2 8) (if ((I (f + 2) (x1).toNatClampNeg) - (I (f + 2) (x2).toNatClampNeg)) < (1 : Int32) then (mj_G Ω l false mX3_isShadowed d 0 0 Φ 0 0 2 ([some (.ref f), some (.int x1), some (.int (x2 + (1 : Int32))), none], [], (mk I J))) else (if (3 : Int32) < ((I (f + 2) (x1).toNatClampNeg) - (I (f + 2) (x2).toNatClampNeg)) then (mj_G Ω l false mX3_isShadowed d 0 0 Φ 0 0 2 ([some (.ref f), some (.int x1), some (.int (x2 + (1 : Int32))), none], [], (mk I J))) else (mj_gd (mj_inB x1 8) (mj_gd (mj_inB x2 8) (if ((I (f + 1) (x1).toNatClampNeg) - (I (f + 1) (x2).toNatClampNeg)) < (-1 : Int32) then (mj_G Ω l false mX3_isShadowed d 0 0 Φ 0 0 2 ([some (.ref f), some (.int x1), some (.int (x2 + (1 : Int32))), none], [], (mk I J))) else (if (1 : Int32) < ((I (f + 1) (x1).toNatClampNeg) - (I (f + 1) (x2).toNatClampNeg)) then (mj_G Ω l false mX3_isShadowed d 0 0 Φ 0 0 2 ([some (.ref f), some (.int x1), some (.int (x2 + (1 : Int32))), none], [], (mk I J))) else (Φ (some (.int (1 : Int32))) (mk I J)))))))))) else (Φ (some (.int (0 : Int32))) (mk I J))))) :
    mj_G Ω l false mX3_isShadowed d 0 0 Φ 0 0 2 ([some (.ref f), some (.int x1), some (.int x2), none], [], mk I J) := by
  rcases hf with rfl | rfl | rfl <;> exact mj_blk (μ := mX3_isShadowed) (P := pX3_isShadowed) (cut := cutX3_isShadowed) (cs := csX3_isShadowed) dX3_isShadowed csX3_isShadowed_ok hd 34 2 _ h
def tX3_isShadowed : mj_PT := fun as M Φ => match as with
  | [.ref this, .int b] => (isF3 this ∧ mj_isk M) ∧ (okF M.2.2.1 this ∧ isB (nF M.2.2.1 this) b) ∧ Φ (some (.int (b2i (shad (nF M.2.2.1 this) (VF M.2.2.1 this) (b).toNatClampNeg)))) M
  | _ => False
theorem mnX3_isShadowed {Ω : mj_Om} {l : Launch} {d : Nat} {Φ : Option Value → mj_M → Prop} (hd : 2 ≤ d) (f : Nat) (hf : isF3 f) (b : Int32) (I : Nat → Nat → Int32) (J : Nat → Nat → Int64) (hp : okF I f ∧ isB (nF I f) b) (h : Φ (some (.int (b2i (shad (nF I f) (VF I f) (b).toNatClampNeg)))) (mk I J)) : mj_Met Ω l false mX3_isShadowed d 0 0 [.ref f, .int b] (mk I J) Φ := by
  refine inX3_isShadowed hd f hf b I J ?_
  obtain ⟨hp, hb, hbn⟩ := hp
  generalize hk : b.toNatClampNeg = k at *
  subst hb
  obtain ⟨hc, hn⟩ := hp
  refine lp_any (G := fun i => mj_G Ω l false mX3_isShadowed d 0 0 Φ 0 0 2 ([some (.ref f), some (.int (nI k)), some (.int (nI i)), none], [], mk I J)) (Ψ := fun r => Φ (some (.int r)) (mk I J)) (n := nF I f) (fun i => ¬ VF I f 1 k - VF I f 1 i < 1 ∧ ¬ 3 < VF I f 1 k - VF I f 1 i ∧ besd (VF I f) k i) (fun i hi h1 h0 => ?_) (fun hB => ?_) h
  · refine bX3_isShadowed_2 hd f hf (nI k) (nI i) I J ?_
    unfold besd at h1 h0
    rw [VF_1 hi, VF_1 hbn, VF_0 hi, VF_0 hbn] at h1 h0
    simp (disch := omega) only [hc, jn_lt, jn_le, jn_eq, jn_cl, jn_in, jn_succ, gd_dec, if_pos, if_neg, n6_0, n6_1, n6_2, n6_3, n6_4, n6_5]
    repeat' split
    all_goals first
      | exact h1 (by (repeat' apply And.intro) <;> assumption)
      | exact h0 (by rintro ⟨q0, q1, q2, q3⟩; contradiction)
  · refine bX3_isShadowed_2 hd f hf (nI k) (nI (nF I f)) I J ?_
    simp (disch := omega) only [hc, jn_lt, jn_le, jn_eq, jn_cl, jn_in, jn_succ, gd_dec, if_pos, if_neg, n6_0, n6_1, n6_2, n6_3, n6_4, n6_5]
    exact hB
theorem sdX3_isShadowed : mj_Sd mX3_isShadowed 2 tX3_isShadowed := by
  intro Ω l d hd as M Φ h
  unfold tX3_isShadowed at h
  split at h
  · rename_i f b
    obtain ⟨⟨hf, hM⟩, hp, h⟩ := h
    rw [mj_isk_of hM]
    exact mnX3_isShadowed hd f hf b _ _ hp (by
      rw [mj_isk_of hM] at h
      exact h)
  · exact h.elim
def csX12_isShadowed : List (Nat × Nat × Nat × mj_PT) := [(214, 1, 3, tX12_in), (283, 0, 3, mj_rcv 12 tX12_of), (286, 1, 1, mj_ptab)]
theorem csX12_isShadowed_ok : mj_Cs mX12_isShadowed 2 csX12_isShadowed := (mj_CsS (D' := 1) sdX12_in (Nat.le_of_ble_eq_true rfl) fX12_in sX12_in (by decide +kernel) l12_214 (mj_CsV (D' := 1) (ci := 12) (q := (RX12, TX12, 45)) sdX12_of (Nat.le_of_ble_eq_true rfl) fX12_of rfl rfl iX12_of vX12_of (by decide +kernel) l12_283 (mj_Csab (Nat.le_of_ble_eq_true rfl) l12_286 mj_Cs0)))
def cutX12_isShadowed : List (Nat × List Bool) := [(2, [true, true, true])]
set_option maxRecDepth 100000 in
set_option maxHeartbeats 4000000 in
theorem inX12_isShadowed {Ω : mj_Om} {l : Launch} {d : Nat} {Φ : Option Value → mj_M → Prop} (hd : 2 ≤ d) (b : Int32) (I : Nat → Nat → Int32) (J : Nat → Nat → Int64)
    (h : ((mj_G Ω l false mX12_isShadowed d 0 0 Φ 0 0 2 ([some (.ref 91), some (.int b), some (.int (0 : Int32))], [], (mk I J))))) :
    mj_Met Ω l false mX12_isShadowed d 0 0 [.ref 91, .int b] (mk I J) Φ := mj_entry (by decide) rfl (fun h => (by cases h)) (Nat.le_of_ble_eq_true rfl) (mj_blk (μ := mX12_isShadowed) (P := pX12_isShadowed) (cut := cutX12_isShadowed) (cs := csX12_isShadowed) dX12_isShadowed csX12_isShadowed_ok hd 41 0 _ h)
set_option maxRecDepth 100000 in
set_option maxHeartbeats 4000000 in
theorem bX12_isShadowed_2 {Ω : mj_Om} {l : Launch} {d : Nat} {Φ : Option Value → mj_M → Prop} (hd : 2 ≤ d) (x1 : Int32) (x2 : Int32) (I : Nat → Nat → Int32) (J : Nat → Nat → Int64)
    (h : ((if x2 < (I 91 22) then (if x2 = x1 then (mj_G Ω l false mX12_isShadowed d 0 0 Φ 0 0 2 ([some (.ref 91), some (.int x1), some (.int (x2 + (1 : Int32)))], [], (mk I J))) else (mj_gd (mj_inB (((6 : Int32) * x2) + (0 : Int32)) 49) (mj_gd (mj_inB (((6 : Int32) * x1) + (0 : Int32)) 49) (if (1 : Int32) < (if (0 : Int32) ≤ ((I 106 ((((6 : Int32) * x2) + (0 : Int32))).toNatClampNeg) - (I 106 ((((6 : Int32) * x1) + (0 : Int32))).toNatClampNeg)) then ((I 106 ((((6 : Int32) * x2) + (0 : Int32))).toNatClampNeg) - (I 106 ((((6 : Int32) * x1) + (0 : Int32))).toNatClampNeg)) else 0 - ((I 106 ((((6 : Int32) * x2) + (0 : Int32))).toNatClampNeg) - (I 106 ((((6 : Int32) * x1) + (0 : Int32))).toNatClampNeg))) then (mj_G Ω l false mX12_isShadowed d 0 0 Φ 0 0 2 ([some (.ref 91), some (.int x1), some (.int (x2 + (1 : Int32)))], [], (mk I J))) else (mj_gd (mj_inB (((6 : Int32) * x1) + (1 : Int32)) 49) (mj_gd (mj_inB (((6 : Int32) * x2) + (1 : Int32)) 49) (if ((I 106 ((((6 : Int32) * x1) + (1 : Int32))).toNatClampNeg) - (I 106 ((((6 : Int32) * x2) + (1 : Int32))).toNatClampNeg)) < (1 : Int32) then (mj_G Ω l false mX12_isShadowed d 0 0 Φ 0 0 2 ([some (.ref 91), some (.int x1), some (.int (x2 + (1 : Int32)))], [], (mk I J))) else (if (3 : Int32) < ((I 106 ((((6 : Int32) * x1) + (1 : Int32))).toNatClampNeg) - (I 106 ((((6 : Int32) * x2) + (1 : Int32))).toNatClampNeg)) then (mj_G Ω l false mX12_isShadowed d 0 0 Φ 0 0 2 ([some (.ref 91), some (.int x1), some (.int (x2 + (1 : Int32)))], [], (mk I J))) else (Φ (some (.int (1 : Int32))) (mk I J)))))))))) else (Φ (some (.int (0 : Int32))) (mk I J))))) :
    mj_G Ω l false mX12_isShadowed d 0 0 Φ 0 0 2 ([some (.ref 91), some (.int x1), some (.int x2)], [], mk I J) := mj_blk (μ := mX12_isShadowed) (P := pX12_isShadowed) (cut := cutX12_isShadowed) (cs := csX12_isShadowed) dX12_isShadowed csX12_isShadowed_ok hd 41 2 _ h
def tX12_isShadowed : mj_PT := fun as M Φ => match as with
  | [.ref this, .int b] => (this = 91 ∧ mj_isk M) ∧ (okM M.2.2.1 ∧ isB (nM M.2.2.1) b ∧ colB (nM M.2.2.1) (VM M.2.2.1)) ∧ Φ (some (.int (b2i (shad (nM M.2.2.1) (VM M.2.2.1) (b).toNatClampNeg)))) M
  | _ => False
theorem mnX12_isShadowed {Ω : mj_Om} {l : Launch} {d : Nat} {Φ : Option Value → mj_M → Prop} (hd : 2 ≤ d) (b : Int32) (I : Nat → Nat → Int32) (J : Nat → Nat → Int64) (hp : okM I ∧ isB (nM I) b ∧ colB (nM I) (VM I)) (h : Φ (some (.int (b2i (shad (nM I) (VM I) (b).toNatClampNeg)))) (mk I J)) : mj_Met Ω l false mX12_isShadowed d 0 0 [.ref 91, .int b] (mk I J) Φ := by
  refine inX12_isShadowed hd b I J ?_
  obtain ⟨hp, ⟨hb, hbn⟩, hcb⟩ := hp
  generalize hk : b.toNatClampNeg = k at *
  subst hb
  obtain ⟨hc, hn⟩ := hp
  refine lp_any (G := fun i => mj_G Ω l false mX12_isShadowed d 0 0 Φ 0 0 2 ([some (.ref 91), some (.int (nI k)), some (.int (nI i))], [], mk I J)) (Ψ := fun r => Φ (some (.int r)) (mk I J)) (n := nM I) (fun i => ¬ VM I 1 k - VM I 1 i < 1 ∧ ¬ 3 < VM I 1 k - VM I 1 i ∧ besd (VM I) k i) (fun i hi h1 h0 => ?_) (fun hB => ?_) h
  · refine bX12_isShadowed_2 hd (nI k) (nI i) I J ?_
    have hx := hcb i hi
    have hy := hcb k hbn
    unfold besd at h1 h0
    rw [VM_0 hi] at hx
    rw [VM_0 hbn] at hy
    have ha := abs_sm hx hy
    have hee : i = k → ¬ (¬ VM I 1 k - VM I 1 i < 1) := by
      intro q
      subst q
      rw [Int32.sub_self]
      decide
    rw [VM_1 hi, VM_1 hbn] at hee
    rw [VM_1 hi, VM_1 hbn, VM_0 hi, VM_0 hbn] at h1 h0
    by_cases hik : i = k
    · subst hik
      simp (disch := omega) only [hc, jn_lt, jn_le, jn_eq, jn_cl, jn_in, jn_succ, gd_dec, if_pos, if_neg, n6_0, n6_1, n6_2, n6_3, n6_4, n6_5]
      exact h0 (fun q => hee rfl q.1)
    simp (disch := omega) only [hc, jn_lt, jn_le, jn_eq, jn_cl, jn_in, jn_succ, gd_dec, if_pos, if_neg, n6_0, n6_1, n6_2, n6_3, n6_4, n6_5, ha]
    repeat' split
    all_goals first
      | exact h1 ⟨by assumption, by assumption, Classical.not_not.mp (by assumption)⟩
      | exact h0 (fun q => absurd q.2.2 (by assumption))
      | exact h0 (fun q => absurd (by assumption) q.1)
      | exact h0 (fun q => absurd (by assumption) q.2.1)
  · refine bX12_isShadowed_2 hd (nI k) (nI (nM I)) I J ?_
    simp (disch := omega) only [hc, jn_lt, jn_le, jn_eq, jn_cl, jn_in, jn_succ, gd_dec, if_pos, if_neg, n6_0, n6_1, n6_2, n6_3, n6_4, n6_5]
    exact hB
theorem sdX12_isShadowed : mj_Sd mX12_isShadowed 2 tX12_isShadowed := by
  intro Ω l d hd as M Φ h
  unfold tX12_isShadowed at h
  split at h
  · rename_i z0 b
    obtain ⟨⟨rfl, hM⟩, hp, h⟩ := h
    rw [mj_isk_of hM]
    exact mnX12_isShadowed hd b _ _ hp (by
      rw [mj_isk_of hM] at h
      exact h)
  · exact h.elim
def csX3_countBeside : List (Nat × Nat × Nat × mj_PT) := [(63, 0, 3, mj_rcv 3 tX3_isBeside)]
theorem csX3_countBeside_ok : mj_Cs mX3_countBeside 2 csX3_countBeside := (mj_CsV (D' := 1) (ci := 3) (q := (RX3, TX3, 10)) sdX3_isBeside (Nat.le_of_ble_eq_true rfl) fX3_isBeside rfl rfl iX3_isBeside vX3_isBeside (by decide +kernel) l3_63 mj_Cs0)
def cutX3_countBeside : List (Nat × List Bool) := [(4, [true, true, true, true])]
set_option maxRecDepth 100000 in
set_option maxHeartbeats 4000000 in
theorem inX3_countBeside {Ω : mj_Om} {l : Launch} {d : Nat} {Φ : Option Value → mj_M → Prop} (hd : 2 ≤ d) (f : Nat) (hf : isF3 f) (b : Int32) (I : Nat → Nat → Int32) (J : Nat → Nat → Int64)
    (h : ((mj_G Ω l false mX3_countBeside d 0 0 Φ 0 0 4 ([some (.ref f), some (.int b), some (.int (0 : Int32)), some (.int (0 : Int32))], [], (mk I J))))) :
    mj_Met Ω l false mX3_countBeside d 0 0 [.ref f, .int b] (mk I J) Φ := by
  rcases hf with rfl | rfl | rfl <;> exact mj_entry (by decide) rfl (fun h => (by cases h)) (Nat.le_of_ble_eq_true rfl) (mj_blk (μ := mX3_countBeside) (P := pX3_countBeside) (cut := cutX3_countBeside) (cs := csX3_countBeside) dX3_countBeside csX3_countBeside_ok hd 22 0 _ h)
set_option maxRecDepth 100000 in
set_option maxHeartbeats 4000000 in
theorem bX3_countBeside_4 {Ω : mj_Om} {l : Launch} {d : Nat} {Φ : Option Value → mj_M → Prop} (hd : 2 ≤ d) (f : Nat) (hf : isF3 f) (x1 : Int32) (x2 : Int32) (x3 : Int32) (I : Nat → Nat → Int32) (J : Nat → Nat → Int64)
    (h : ((if x3 < (I f 8) then (if x3 = x1 then (mj_G Ω l false mX3_countBeside d 0 0 Φ 0 0 4 ([some (.ref f), some (.int x1), some (.int x2), some (.int (x3 + (1 : Int32)))], [], (mk I J))) else (mj_gd (mj_inB x1 8) (mj_gd (mj_inB x3 8) (if ((I (f + 1) (x1).toNatClampNeg) - (I (f + 1) (x3).toNatClampNeg)) < (-1 : Int32) then (mj_G Ω l false mX3_countBeside d 0 0 Φ 0 0 4 ([some (.ref f), some (.int x1), some (.int x2), some (.int (x3 + (1 : Int32)))], [], (mk I J))) else (if (1 : Int32) < ((I (f + 1) (x1).toNatClampNeg) - (I (f + 1) (x3).toNatClampNeg)) then (mj_G Ω l false mX3_countBeside d 0 0 Φ 0 0 4 ([some (.ref f), some (.int x1), some (.int x2), some (.int (x3 + (1 : Int32)))], [], (mk I J))) else (mj_G Ω l false mX3_countBeside d 0 0 Φ 0 0 4 ([some (.ref f), some (.int x1), some (.int (x2 + (1 : Int32))), some (.int (x3 + (1 : Int32)))], [], (mk I J)))))))) else (Φ (some (.int x2)) (mk I J))))) :
    mj_G Ω l false mX3_countBeside d 0 0 Φ 0 0 4 ([some (.ref f), some (.int x1), some (.int x2), some (.int x3)], [], mk I J) := by
  rcases hf with rfl | rfl | rfl <;> exact mj_blk (μ := mX3_countBeside) (P := pX3_countBeside) (cut := cutX3_countBeside) (cs := csX3_countBeside) dX3_countBeside csX3_countBeside_ok hd 22 4 _ h
def tX3_countBeside : mj_PT := fun as M Φ => match as with
  | [.ref this, .int b] => (isF3 this ∧ mj_isk M) ∧ (okF M.2.2.1 this ∧ isB (nF M.2.2.1 this) b) ∧ Φ (some (.int (nI (nbs (nF M.2.2.1 this) (VF M.2.2.1 this) (b).toNatClampNeg)))) M
  | _ => False
theorem mnX3_countBeside {Ω : mj_Om} {l : Launch} {d : Nat} {Φ : Option Value → mj_M → Prop} (hd : 2 ≤ d) (f : Nat) (hf : isF3 f) (b : Int32) (I : Nat → Nat → Int32) (J : Nat → Nat → Int64) (hp : okF I f ∧ isB (nF I f) b) (h : Φ (some (.int (nI (nbs (nF I f) (VF I f) (b).toNatClampNeg)))) (mk I J)) : mj_Met Ω l false mX3_countBeside d 0 0 [.ref f, .int b] (mk I J) Φ := by
  refine inX3_countBeside hd f hf b I J ?_
  obtain ⟨hp, hb, hbn⟩ := hp
  generalize hk : b.toNatClampNeg = k at *
  subst hb
  obtain ⟨hc, hn⟩ := hp
  refine lp_cnt (G := fun i s => mj_G Ω l false mX3_countBeside d 0 0 Φ 0 0 4 ([some (.ref f), some (.int (nI k)), some (.int (nI s)), some (.int (nI i))], [], mk I J)) (n := nF I f) (fun i => ¬ i = k ∧ besd (VF I f) k i) (fun i s hi hs h1 h0 => ?_) ?_
  · refine bX3_countBeside_4 hd f hf (nI k) (nI s) (nI i) I J ?_
    unfold besd at h1 h0
    rw [VF_0 hi, VF_0 hbn] at h1 h0
    simp (disch := omega) only [hc, jn_lt, jn_le, jn_eq, jn_cl, jn_in, jn_succ, gd_dec, if_pos, if_neg, n6_0, n6_1, n6_2, n6_3, n6_4, n6_5]
    repeat' split
    all_goals first
      | exact h1 (by (repeat' apply And.intro) <;> assumption)
      | exact h0 (by rintro ⟨q0, q1, q2⟩; contradiction)
  · refine bX3_countBeside_4 hd f hf (nI k) (nI (cnt (fun i => ¬ i = k ∧ besd (VF I f) k i) (nF I f))) (nI (nF I f)) I J ?_
    simp (disch := omega) only [hc, jn_lt, jn_le, jn_eq, jn_cl, jn_in, jn_succ, gd_dec, if_pos, if_neg, n6_0, n6_1, n6_2, n6_3, n6_4, n6_5]
    exact h
theorem sdX3_countBeside : mj_Sd mX3_countBeside 2 tX3_countBeside := by
  intro Ω l d hd as M Φ h
  unfold tX3_countBeside at h
  split at h
  · rename_i f b
    obtain ⟨⟨hf, hM⟩, hp, h⟩ := h
    rw [mj_isk_of hM]
    exact mnX3_countBeside hd f hf b _ _ hp (by
      rw [mj_isk_of hM] at h
      exact h)
  · exact h.elim
def csX3_isRowFull : List (Nat × Nat × Nat × mj_PT) := []
theorem csX3_isRowFull_ok : mj_Cs mX3_isRowFull 1 csX3_isRowFull := mj_Cs0
def cutX3_isRowFull : List (Nat × List Bool) := [(5, [true, true, true, true, true])]
set_option maxRecDepth 100000 in
set_option maxHeartbeats 4000000 in
theorem inX3_isRowFull {Ω : mj_Om} {l : Launch} {d : Nat} {Φ : Option Value → mj_M → Prop} (hd : 1 ≤ d) (y : Int32) (w : Int32) (I : Nat → Nat → Int32) (J : Nat → Nat → Int64)
    (h : ((mj_G Ω l false mX3_isRowFull d 0 0 Φ 0 0 5 ([some (.ref 48), some (.int y), some (.int w), some (.int (0 : Int32)), some (.int (0 : Int32))], [], (mk I J))))) :
    mj_Met Ω l false mX3_isRowFull d 0 0 [.ref 48, .int y, .int w] (mk I J) Φ := mj_entry (by decide) rfl (fun h => (by cases h)) (Nat.le_of_ble_eq_true rfl) (mj_blk (μ := mX3_isRowFull) (P := pX3_isRowFull) (cut := cutX3_isRowFull) (cs := csX3_isRowFull) dX3_isRowFull csX3_isRowFull_ok hd 25 0 _ h)
set_option maxRecDepth 100000 in
set_option maxHeartbeats 4000000 in
theorem bX3_isRowFull_5 {Ω : mj_Om} {l : Launch} {d : Nat} {Φ : Option Value → mj_M → Prop} (hd : 1 ≤ d) (x1 : Int32) (x2 : Int32) (x3 : Int32) (x4 : Int32) (I : Nat → Nat → Int32) (J : Nat → Nat → Int64)
    (h : ((if x4 < (I 48 8) then (mj_gd (mj_inB x4 8) (if (I 50 (x4).toNatClampNeg) = x1 then (mj_G Ω l false mX3_isRowFull d 0 0 Φ 0 0 5 ([some (.ref 48), some (.int x1), some (.int x2), some (.int (x3 + (1 : Int32))), some (.int (x4 + (1 : Int32)))], [], (mk I J))) else (mj_G Ω l false mX3_isRowFull d 0 0 Φ 0 0 5 ([some (.ref 48), some (.int x1), some (.int x2), some (.int x3), some (.int (x4 + (1 : Int32)))], [], (mk I J))))) else (if x3 < x2 then (Φ (some (.int (0 : Int32))) (mk I J)) else (Φ (some (.int (1 : Int32))) (mk I J)))))) :
    mj_G Ω l false mX3_isRowFull d 0 0 Φ 0 0 5 ([some (.ref 48), some (.int x1), some (.int x2), some (.int x3), some (.int x4)], [], mk I J) := mj_blk (μ := mX3_isRowFull) (P := pX3_isRowFull) (cut := cutX3_isRowFull) (cs := csX3_isRowFull) dX3_isRowFull csX3_isRowFull_ok hd 25 5 _ h
def tX3_isRowFull : mj_PT := fun as M Φ => match as with
  | [.ref this, .int y, .int w] => (this = 48 ∧ mj_isk M) ∧ (okF M.2.2.1 this ∧ w = nI (w).toNatClampNeg) ∧ Φ (some (.int (b2i ((w).toNatClampNeg ≤ cnt (fun i => VF M.2.2.1 this 1 i = y) (nF M.2.2.1 this))))) M
  | _ => False
theorem mnX3_isRowFull {Ω : mj_Om} {l : Launch} {d : Nat} {Φ : Option Value → mj_M → Prop} (hd : 1 ≤ d) (y : Int32) (w : Int32) (I : Nat → Nat → Int32) (J : Nat → Nat → Int64) (hp : okF I 48 ∧ w = nI (w).toNatClampNeg) (h : Φ (some (.int (b2i ((w).toNatClampNeg ≤ cnt (fun i => VF I 48 1 i = y) (nF I 48))))) (mk I J)) : mj_Met Ω l false mX3_isRowFull d 0 0 [.ref 48, .int y, .int w] (mk I J) Φ := by
  refine inX3_isRowFull hd y w I J ?_
  obtain ⟨⟨hc, hn⟩, hw⟩ := hp
  have hw2 : w.toNatClampNeg < 2147483648 := by
    have := Int32.toInt_lt w
    rw [Int32.toNatClampNeg]
    omega
  generalize hk : w.toNatClampNeg = k at *
  subst hw
  have hcl := cnt_le (fun i => VF I 48 1 i = y) (nF I 48)
  
  refine lp_cnt (G := fun i s => mj_G Ω l false mX3_isRowFull d 0 0 Φ 0 0 5 ([some (.ref 48), some (.int y), some (.int (nI k)), some (.int (nI s)), some (.int (nI i))], [], mk I J)) (n := nF I 48) (fun i => VF I 48 1 i = y) (fun i s hi hs h1 h0 => ?_) ?_
  · refine bX3_isRowFull_5 hd y (nI k) (nI s) (nI i) I J ?_
    rw [VF_1 hi] at h1 h0
    simp (disch := omega) only [hc, jn_lt, jn_le, jn_eq, jn_cl, jn_in, jn_succ, gd_dec, if_pos, if_neg, n6_0, n6_1, n6_2, n6_3, n6_4, n6_5]
    repeat' split
    all_goals first
      | exact h1 (by (repeat' apply And.intro) <;> assumption)
      | exact h0 (by rintro q0; contradiction)
  · refine bX3_isRowFull_5 hd y (nI k) (nI (cnt (fun i => VF I 48 1 i = y) (nF I 48))) (nI (nF I 48)) I J ?_
    simp (disch := omega) only [hc, jn_lt, jn_le, jn_eq, jn_cl, jn_in, jn_succ, gd_dec, if_pos, if_neg, n6_0, n6_1, n6_2, n6_3, n6_4, n6_5]
    split
    · rwa [b2i_0 (by omega)] at h
    · rwa [b2i_1 (by omega)] at h
theorem sdX3_isRowFull : mj_Sd mX3_isRowFull 1 tX3_isRowFull := by
  intro Ω l d hd as M Φ h
  unfold tX3_isRowFull at h
  split at h
  · rename_i z0 y w
    obtain ⟨⟨rfl, hM⟩, hp, h⟩ := h
    rw [mj_isk_of hM]
    exact mnX3_isRowFull hd y w _ _ hp (by
      rw [mj_isk_of hM] at h
      exact h)
  · exact h.elim
def csX12_isHeldAhead : List (Nat × Nat × Nat × mj_PT) := [(283, 0, 3, mj_rcv 12 tX12_of)]
theorem csX12_isHeldAhead_ok : mj_Cs mX12_isHeldAhead 2 csX12_isHeldAhead := (mj_CsV (D' := 1) (ci := 12) (q := (RX12, TX12, 45)) sdX12_of (Nat.le_of_ble_eq_true rfl) fX12_of rfl rfl iX12_of vX12_of (by decide +kernel) l12_283 mj_Cs0)
def cutX12_isHeldAhead : List (Nat × List Bool) := [(3, [true, true, true, true, true])]
set_option maxRecDepth 100000 in
set_option maxHeartbeats 4000000 in
theorem inX12_isHeldAhead {Ω : mj_Om} {l : Launch} {d : Nat} {Φ : Option Value → mj_M → Prop} (hd : 2 ≤ d) (b : Int32) (x : Int32) (y : Int32) (I : Nat → Nat → Int32) (J : Nat → Nat → Int64)
    (h : ((mj_G Ω l false mX12_isHeldAhead d 0 0 Φ 0 0 3 ([some (.ref 91), some (.int b), some (.int x), some (.int y), some (.int (0 : Int32))], [], (mk I J))))) :
    mj_Met Ω l false mX12_isHeldAhead d 0 0 [.ref 91, .int b, .int x, .int y] (mk I J) Φ := mj_entry (by decide) rfl (fun h => (by cases h)) (Nat.le_of_ble_eq_true rfl) (mj_blk (μ := mX12_isHeldAhead) (P := pX12_isHeldAhead) (cut := cutX12_isHeldAhead) (cs := csX12_isHeldAhead) dX12_isHeldAhead csX12_isHeldAhead_ok hd 24 0 _ h)
set_option maxRecDepth 100000 in
set_option maxHeartbeats 4000000 in
theorem bX12_isHeldAhead_3 {Ω : mj_Om} {l : Launch} {d : Nat} {Φ : Option Value → mj_M → Prop} (hd : 2 ≤ d) (x1 : Int32) (x2 : Int32) (x3 : Int32) (x4 : Int32) (I : Nat → Nat → Int32) (J : Nat → Nat → Int64)
    (h : ((if x4 < x1 then (mj_gd (mj_inB (((6 : Int32) * x4) + (0 : Int32)) 49) (if (I 106 ((((6 : Int32) * x4) + (0 : Int32))).toNatClampNeg) = x2 then (mj_gd (mj_inB (((6 : Int32) * x4) + (1 : Int32)) 49) (if (I 106 ((((6 : Int32) * x4) + (1 : Int32))).toNatClampNeg) = x3 then (Φ (some (.int (1 : Int32))) (mk I J)) else (mj_G Ω l false mX12_isHeldAhead d 0 0 Φ 0 0 3 ([some (.ref 91), some (.int x1), some (.int x2), some (.int x3), some (.int (x4 + (1 : Int32)))], [], (mk I J))))) else (mj_G Ω l false mX12_isHeldAhead d 0 0 Φ 0 0 3 ([some (.ref 91), some (.int x1), some (.int x2), some (.int x3), some (.int (x4 + (1 : Int32)))], [], (mk I J))))) else (Φ (some (.int (0 : Int32))) (mk I J))))) :
    mj_G Ω l false mX12_isHeldAhead d 0 0 Φ 0 0 3 ([some (.ref 91), some (.int x1), some (.int x2), some (.int x3), some (.int x4)], [], mk I J) := mj_blk (μ := mX12_isHeldAhead) (P := pX12_isHeldAhead) (cut := cutX12_isHeldAhead) (cs := csX12_isHeldAhead) dX12_isHeldAhead csX12_isHeldAhead_ok hd 24 3 _ h
def tX12_isHeldAhead : mj_PT := fun as M Φ => match as with
  | [.ref this, .int b, .int x, .int y] => (this = 91 ∧ mj_isk M) ∧ (okM M.2.2.1 ∧ isB (nM M.2.2.1) b) ∧ Φ (some (.int (b2i (held (b).toNatClampNeg (VM M.2.2.1) x y)))) M
  | _ => False
theorem mnX12_isHeldAhead {Ω : mj_Om} {l : Launch} {d : Nat} {Φ : Option Value → mj_M → Prop} (hd : 2 ≤ d) (b : Int32) (x : Int32) (y : Int32) (I : Nat → Nat → Int32) (J : Nat → Nat → Int64) (hp : okM I ∧ isB (nM I) b) (h : Φ (some (.int (b2i (held (b).toNatClampNeg (VM I) x y)))) (mk I J)) : mj_Met Ω l false mX12_isHeldAhead d 0 0 [.ref 91, .int b, .int x, .int y] (mk I J) Φ := by
  refine inX12_isHeldAhead hd b x y I J ?_
  obtain ⟨hp, hb, hbn⟩ := hp
  generalize hk : b.toNatClampNeg = k at *
  subst hb
  obtain ⟨hc, hn⟩ := hp
  refine lp_any (G := fun i => mj_G Ω l false mX12_isHeldAhead d 0 0 Φ 0 0 3 ([some (.ref 91), some (.int (nI k)), some (.int x), some (.int y), some (.int (nI i))], [], mk I J)) (Ψ := fun r => Φ (some (.int r)) (mk I J)) (n := k) (fun i => VM I 0 i = x ∧ VM I 1 i = y) (fun i hi h1 h0 => ?_) (fun hB => ?_) h
  · refine bX12_isHeldAhead_3 hd (nI k) x y (nI i) I J ?_
    have hi2 : i < nM I := by omega
    rw [VM_0 hi2, VM_1 hi2] at h1 h0
    simp (disch := omega) only [hc, jn_lt, jn_le, jn_eq, jn_cl, jn_in, jn_succ, gd_dec, if_pos, if_neg, n6_0, n6_1, n6_2, n6_3, n6_4, n6_5]
    repeat' split
    all_goals first
      | exact h1 (by (repeat' apply And.intro) <;> assumption)
      | exact h0 (by rintro ⟨q0, q1⟩; contradiction)
  · refine bX12_isHeldAhead_3 hd (nI k) x y (nI (k)) I J ?_
    simp (disch := omega) only [hc, jn_lt, jn_le, jn_eq, jn_cl, jn_in, jn_succ, gd_dec, if_pos, if_neg, n6_0, n6_1, n6_2, n6_3, n6_4, n6_5]
    exact hB
theorem sdX12_isHeldAhead : mj_Sd mX12_isHeldAhead 2 tX12_isHeldAhead := by
  intro Ω l d hd as M Φ h
  unfold tX12_isHeldAhead at h
  split at h
  · rename_i z0 b x y
    obtain ⟨⟨rfl, hM⟩, hp, h⟩ := h
    rw [mj_isk_of hM]
    exact mnX12_isHeldAhead hd b x y _ _ hp (by
      rw [mj_isk_of hM] at h
      exact h)
  · exact h.elim
