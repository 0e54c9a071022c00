/-! ===== boats: believed, leeward, status, score, place (by program, wip/whole/pc.py) ===== -/
def csX3_believedBack : List (Nat × Nat × Nat × mj_PT) := []
theorem csX3_believedBack_ok : mj_Cs mX3_believedBack 1 csX3_believedBack := mj_Cs0
def cutX3_believedBack : List (Nat × List Bool) := []
set_option maxRecDepth 100000 in
set_option maxHeartbeats 4000000 in
theorem inX3_believedBack {Ω : mj_Om} {l : Launch} {d : Nat} {Φ : Option Value → mj_M → Prop} (hd : 1 ≤ d) (f : Nat) (hf : isF3 f) (b_ : Int32) (I : Nat → Nat → Int32) (J : Nat → Nat → Int64)
    (h : ((mj_gd (mj_inB b_ 8) (if (I (f + 7) (b_).toNatClampNeg) = (1 : Int32) then (mj_gd (mj_inB b_ 8) (Φ (some (.int (I (f + 2) (b_).toNatClampNeg))) (mk I J))) else (mj_gd (mj_inB b_ 8) (mj_gd (mj_inB b_ 8) (Φ (some (.int (((I (f + 2) (b_).toNatClampNeg) + (5 : Int32)) - (I (f + 5) (b_).toNatClampNeg)))) (mk I J)))))))) :
    mj_Met Ω l false mX3_believedBack d 0 0 [.ref f, .int b_] (mk I J) Φ := by
  rcases hf with rfl | rfl | rfl <;> exact mj_entry (by decide) rfl (fun h => (by cases h)) (Nat.le_of_ble_eq_true rfl) (mj_blk (μ := mX3_believedBack) (P := pX3_believedBack) (cut := cutX3_believedBack) (cs := csX3_believedBack) dX3_believedBack csX3_believedBack_ok hd 24 0 _ h)
def tX3_believedBack : mj_PT := fun as M Φ => match as with
  | [.ref this, .int b_] => ((isF3 this ∧ mj_isk M) ∧ (∃ b : Nat, b_ = nI b ∧ ((okF M.2.2.1 this ∧ b < nF M.2.2.1 this) ∧ Φ (some (.int (blv (VF M.2.2.1 this) b))) M)))
  | _ => False
theorem mnX3_believedBack {Ω : mj_Om} {l : Launch} {d : Nat} {Φ : Option Value → mj_M → Prop} (hd : 1 ≤ d) (f : Nat) (hf : isF3 f) (b : Nat) (I : Nat → Nat → Int32) (J : Nat → Nat → Int64) (hp : okF I f ∧ b < nF I f) (h : Φ (some (.int (blv (VF I f) b))) (mk I J)) : mj_Met Ω l false mX3_believedBack d 0 0 [.ref f, .int (nI b)] (mk I J) Φ := by
  refine inX3_believedBack hd f hf (nI b) I J ?_
  obtain ⟨⟨hc, hn⟩, hb⟩ := hp
  simp (disch := omega) only [jn_in, jn_cl, gd_dec, n6_0, n6_1, n6_2, n6_3, n6_4, n6_5]
  unfold blv at h
  rw [VF_1 hb, VF_4 hb, VF_6 hb] at h
  split
  · rename_i q; rwa [if_pos q] at h
  · rename_i q; rwa [if_neg q] at h
theorem sdX3_believedBack : mj_Sd mX3_believedBack 1 tX3_believedBack := by
  intro Ω l d hd as M Φ h
  unfold tX3_believedBack at h
  split at h
  · rename_i f b_
    obtain ⟨⟨hf, hM⟩, b, rfl, hp, h⟩ := h
    rw [mj_isk_of hM]
    exact mnX3_believedBack hd f hf b _ _ hp (by
      rw [mj_isk_of hM] at h
      exact h)
  · exact h.elim
def csX3_isLeewardHeld : List (Nat × Nat × Nat × mj_PT) := [(60, 0, 3, mj_rcv 3 tX3_isHeld)]
theorem csX3_isLeewardHeld_ok : mj_Cs mX3_isLeewardHeld 2 csX3_isLeewardHeld := (mj_CsV (D' := 1) (ci := 3) (q := (RX3, TX3, 10)) sdX3_isHeld (Nat.le_of_ble_eq_true rfl) fX3_isHeld rfl rfl iX3_isHeld vX3_isHeld (by decide +kernel) l3_60 mj_Cs0)
def cutX3_isLeewardHeld : List (Nat × List Bool) := []
set_option maxRecDepth 100000 in
set_option maxHeartbeats 4000000 in
theorem inX3_isLeewardHeld {Ω : mj_Om} {l : Launch} {d : Nat} {Φ : Option Value → mj_M → Prop} (hd : 2 ≤ d) (f : Nat) (hf : isF3 f) (b_ : Int32) (I : Nat → Nat → Int32) (J : Nat → Nat → Int64)
    (h : ((mj_gd (mj_inB b_ 8) (if (0 : Int32) < (I (f + 1) (b_).toNatClampNeg) then (mj_gd (mj_inB b_ 8) (mj_gd (mj_inB b_ 8) ((isF3 f ∧ mj_isk (mk I J)) ∧ ((okF I f) ∧ (if (b2i (held (nF I f) (VF I f) ((I (f + 1) (b_).toNatClampNeg) - (1 : Int32)) (I (f + 2) (b_).toNatClampNeg))) = (0 : Int32) then (Φ (some (.int (0 : Int32))) (mk I J)) else (Φ (some (.int (1 : Int32))) (mk I J))))))) else (Φ (some (.int (0 : Int32))) (mk I J)))))) :
    mj_Met Ω l false mX3_isLeewardHeld d 0 0 [.ref f, .int b_] (mk I J) Φ := by
  rcases hf with rfl | rfl | rfl <;> exact mj_entry (by decide) rfl (fun h => (by cases h)) (Nat.le_of_ble_eq_true rfl) (mj_blk (μ := mX3_isLeewardHeld) (P := pX3_isLeewardHeld) (cut := cutX3_isLeewardHeld) (cs := csX3_isLeewardHeld) dX3_isLeewardHeld csX3_isLeewardHeld_ok hd 23 0 _ h)
def tX3_isLeewardHeld : mj_PT := fun as M Φ => match as with
  | [.ref this, .int b_] => ((isF3 this ∧ mj_isk M) ∧ (∃ b : Nat, b_ = nI b ∧ ((okF M.2.2.1 this ∧ b < nF M.2.2.1 this) ∧ Φ (some (.int (b2i (lee (nF M.2.2.1 this) (VF M.2.2.1 this) b)))) M)))
  | _ => False
theorem mnX3_isLeewardHeld {Ω : mj_Om} {l : Launch} {d : Nat} {Φ : Option Value → mj_M → Prop} (hd : 2 ≤ d) (f : Nat) (hf : isF3 f) (b : Nat) (I : Nat → Nat → Int32) (J : Nat → Nat → Int64) (hp : okF I f ∧ b < nF I f) (h : Φ (some (.int (b2i (lee (nF I f) (VF I f) b)))) (mk I J)) : mj_Met Ω l false mX3_isLeewardHeld d 0 0 [.ref f, .int (nI b)] (mk I J) Φ := by
  refine inX3_isLeewardHeld hd f hf (nI b) I J ?_
  obtain ⟨⟨hc, hn⟩, hb⟩ := hp
  simp (disch := omega) only [jn_in, jn_cl, gd_dec, n6_0, n6_1, n6_2, n6_3, n6_4, n6_5]
  unfold lee at h
  rw [VF_0 hb, VF_1 hb] at h
  split
  · rename_i q
    refine ⟨⟨hf, mj_isk_mk I J⟩, ⟨hc, hn⟩, ?_⟩
    split
    · rename_i q2; rw [b2i_e0] at q2; rwa [b2i_0 (fun z => q2 z.2)] at h
    · rename_i q2; rw [b2i_e0] at q2; rwa [b2i_1 ⟨q, Classical.not_not.mp q2⟩] at h
  · rename_i q; rwa [b2i_0 (fun z => q z.1)] at h
theorem sdX3_isLeewardHeld : mj_Sd mX3_isLeewardHeld 2 tX3_isLeewardHeld := by
  intro Ω l d hd as M Φ h
  unfold tX3_isLeewardHeld at h
  split at h
  · rename_i f b_
    obtain ⟨⟨hf, hM⟩, b, rfl, hp, h⟩ := h
    rw [mj_isk_of hM]
    exact mnX3_isLeewardHeld hd f hf b _ _ hp (by
      rw [mj_isk_of hM] at h
      exact h)
  · exact h.elim
def csX12_believed : List (Nat × Nat × Nat × mj_PT) := [(283, 0, 3, mj_rcv 12 tX12_of)]
theorem csX12_believed_ok : mj_Cs mX12_believed 2 csX12_believed := (mj_CsV (D' := 1) (ci := 12) (q := (RX12, TX12, 45)) sdX12_of (Nat.le_of_ble_eq_true rfl) fX12_of rfl rfl iX12_of vX12_of (by decide +kernel) l12_283 mj_Cs0)
def cutX12_believed : List (Nat × List Bool) := []
set_option maxRecDepth 100000 in
set_option maxHeartbeats 4000000 in
theorem inX12_believed {Ω : mj_Om} {l : Launch} {d : Nat} {Φ : Option Value → mj_M → Prop} (hd : 2 ≤ d) (b_ : Int32) (I : Nat → Nat → Int32) (J : Nat → Nat → Int64)
    (h : ((mj_gd (mj_inB (((6 : Int32) * b_) + (1 : Int32)) 49) (mj_gd (mj_inB (((6 : Int32) * b_) + (4 : Int32)) 49) (if (I 106 ((((6 : Int32) * b_) + (4 : Int32))).toNatClampNeg) = (1 : Int32) then (Φ (some (.int ((I 106 ((((6 : Int32) * b_) + (1 : Int32))).toNatClampNeg) + (0 : Int32)))) (mk I J)) else (mj_gd (mj_inB (((6 : Int32) * b_) + (4 : Int32)) 48) (Φ (some (.int ((I 106 ((((6 : Int32) * b_) + (1 : Int32))).toNatClampNeg) + ((5 : Int32) - (I 105 ((((6 : Int32) * b_) + (4 : Int32))).toNatClampNeg))))) (mk I J)))))))) :
    mj_Met Ω l false mX12_believed d 0 0 [.ref 91, .int b_] (mk I J) Φ := mj_entry (by decide) rfl (fun h => (by cases h)) (Nat.le_of_ble_eq_true rfl) (mj_blk (μ := mX12_believed) (P := pX12_believed) (cut := cutX12_believed) (cs := csX12_believed) dX12_believed csX12_believed_ok hd 25 0 _ h)
def tX12_believed : mj_PT := fun as M Φ => match as with
  | [.ref this, .int b_] => ((this = 91 ∧ mj_isk M) ∧ (∃ b : Nat, b_ = nI b ∧ ((okM M.2.2.1 ∧ b < nM M.2.2.1) ∧ Φ (some (.int (blv (VM M.2.2.1) b))) M)))
  | _ => False
theorem mnX12_believed {Ω : mj_Om} {l : Launch} {d : Nat} {Φ : Option Value → mj_M → Prop} (hd : 2 ≤ d) (b : Nat) (I : Nat → Nat → Int32) (J : Nat → Nat → Int64) (hp : okM I ∧ b < nM I) (h : Φ (some (.int (blv (VM I) b))) (mk I J)) : mj_Met Ω l false mX12_believed d 0 0 [.ref 91, .int (nI b)] (mk I J) Φ := by
  refine inX12_believed hd (nI b) I J ?_
  obtain ⟨⟨hc, hn⟩, hb⟩ := hp
  simp (disch := omega) only [jn_in, jn_cl, gd_dec, n6_0, n6_1, n6_2, n6_3, n6_4, n6_5]
  unfold blv at h
  rw [VM_1 hb, VM_4 hb, VM_6 hb] at h
  split
  · rename_i q; rw [if_pos q] at h; rwa [Int32.add_zero]
  · rename_i q; rw [if_neg q] at h
    have e : ∀ x y : Int32, x + (5 - y) = x + 5 - y := by intro x y; grind
    rwa [e]
theorem sdX12_believed : mj_Sd mX12_believed 2 tX12_believed := by
  intro Ω l d hd as M Φ h
  unfold tX12_believed at h
  split at h
  · rename_i z_this b_
    obtain ⟨⟨rfl, hM⟩, b, rfl, hp, h⟩ := h
    rw [mj_isk_of hM]
    exact mnX12_believed hd b _ _ hp (by
      rw [mj_isk_of hM] at h
      exact h)
  · exact h.elim
def csX12_isLeewardHeld : List (Nat × Nat × Nat × mj_PT) := [(283, 0, 3, mj_rcv 12 tX12_of), (289, 0, 3, mj_rcv 12 tX12_isHeld)]
theorem csX12_isLeewardHeld_ok : mj_Cs mX12_isLeewardHeld 3 csX12_isLeewardHeld := (mj_CsV (D' := 1) (ci := 12) (q := (RX12, TX12, 45)) sdX12_of (Nat.le_of_ble_eq_true rfl) fX12_of rfl rfl iX12_of vX12_of (by decide +kernel) l12_283 (mj_CsV (D' := 2) (ci := 12) (q := (RX12, TX12, 45)) sdX12_isHeld (Nat.le_of_ble_eq_true rfl) fX12_isHeld rfl rfl iX12_isHeld vX12_isHeld (by decide +kernel) l12_289 mj_Cs0))
def cutX12_isLeewardHeld : List (Nat × List Bool) := []
set_option maxRecDepth 100000 in
set_option maxHeartbeats 4000000 in
theorem inX12_isLeewardHeld {Ω : mj_Om} {l : Launch} {d : Nat} {Φ : Option Value → mj_M → Prop} (hd : 3 ≤ d) (b_ : Int32) (I : Nat → Nat → Int32) (J : Nat → Nat → Int64)
    (h : ((mj_gd (mj_inB (((6 : Int32) * b_) + (0 : Int32)) 49) (if (0 : Int32) < (I 106 ((((6 : Int32) * b_) + (0 : Int32))).toNatClampNeg) then (mj_gd (mj_inB (((6 : Int32) * b_) + (0 : Int32)) 49) (mj_gd (mj_inB (((6 : Int32) * b_) + (1 : Int32)) 49) ((91 = 91 ∧ mj_isk (mk I J)) ∧ ((okM I) ∧ (if (b2i (held (nM I) (VM I) ((I 106 ((((6 : Int32) * b_) + (0 : Int32))).toNatClampNeg) - (1 : Int32)) (I 106 ((((6 : Int32) * b_) + (1 : Int32))).toNatClampNeg))) = (0 : Int32) then (Φ (some (.int (0 : Int32))) (mk I J)) else (Φ (some (.int (1 : Int32))) (mk I J))))))) else (Φ (some (.int (0 : Int32))) (mk I J)))))) :
    mj_Met Ω l false mX12_isLeewardHeld d 0 0 [.ref 91, .int b_] (mk I J) Φ := mj_entry (by decide) rfl (fun h => (by cases h)) (Nat.le_of_ble_eq_true rfl) (mj_blk (μ := mX12_isLeewardHeld) (P := pX12_isLeewardHeld) (cut := cutX12_isLeewardHeld) (cs := csX12_isLeewardHeld) dX12_isLeewardHeld csX12_isLeewardHeld_ok hd 23 0 _ h)
def tX12_isLeewardHeld : mj_PT := fun as M Φ => match as with
  | [.ref this, .int b_] => ((this = 91 ∧ mj_isk M) ∧ (∃ b : Nat, b_ = nI b ∧ ((okM M.2.2.1 ∧ b < nM M.2.2.1) ∧ Φ (some (.int (b2i (lee (nM M.2.2.1) (VM M.2.2.1) b)))) M)))
  | _ => False
theorem mnX12_isLeewardHeld {Ω : mj_Om} {l : Launch} {d : Nat} {Φ : Option Value → mj_M → Prop} (hd : 3 ≤ d) (b : Nat) (I : Nat → Nat → Int32) (J : Nat → Nat → Int64) (hp : okM I ∧ b < nM I) (h : Φ (some (.int (b2i (lee (nM I) (VM I) b)))) (mk I J)) : mj_Met Ω l false mX12_isLeewardHeld d 0 0 [.ref 91, .int (nI b)] (mk I J) Φ := by
  refine inX12_isLeewardHeld hd (nI b) I J ?_
  obtain ⟨⟨hc, hn⟩, hb⟩ := hp
  simp (disch := omega) only [jn_in, jn_cl, gd_dec, n6_0, n6_1, n6_2, n6_3, n6_4, n6_5]
  unfold lee at h
  rw [VM_0 hb, VM_1 hb] at h
  split
  · rename_i q
    refine ⟨⟨by trivial, mj_isk_mk I J⟩, ⟨hc, hn⟩, ?_⟩
    split
    · rename_i q2; rw [b2i_e0] at q2; rwa [b2i_0 (fun z => q2 z.2)] at h
    · rename_i q2; rw [b2i_e0] at q2; rwa [b2i_1 ⟨q, Classical.not_not.mp q2⟩] at h
  · rename_i q; rwa [b2i_0 (fun z => q z.1)] at h
theorem sdX12_isLeewardHeld : mj_Sd mX12_isLeewardHeld 3 tX12_isLeewardHeld := by
  intro Ω l d hd as M Φ h
  unfold tX12_isLeewardHeld at h
  split at h
  · rename_i z_this b_
    obtain ⟨⟨rfl, hM⟩, b, rfl, hp, h⟩ := h
    rw [mj_isk_of hM]
    exact mnX12_isLeewardHeld hd b _ _ hp (by
      rw [mj_isk_of hM] at h
      exact h)
  · exact h.elim
def csX12_statusBy : List (Nat × Nat × Nat × mj_PT) := [(283, 0, 3, mj_rcv 12 tX12_of)]
theorem csX12_statusBy_ok : mj_Cs mX12_statusBy 2 csX12_statusBy := (mj_CsV (D' := 1) (ci := 12) (q := (RX12, TX12, 45)) sdX12_of (Nat.le_of_ble_eq_true rfl) fX12_of rfl rfl iX12_of vX12_of (by decide +kernel) l12_283 mj_Cs0)
def cutX12_statusBy : List (Nat × List Bool) := []
set_option maxRecDepth 100000 in
set_option maxHeartbeats 4000000 in
theorem inX12_statusBy {Ω : mj_Om} {l : Launch} {d : Nat} {Φ : Option Value → mj_M → Prop} (hd : 2 ≤ d) (b_ : Int32) (fl : Int32) (I : Nat → Nat → Int32) (J : Nat → Nat → Int64)
    (h : ((if fl = (1 : Int32) then (mj_gd (mj_inB (((6 : Int32) * b_) + (5 : Int32)) 49) (if (I 106 ((((6 : Int32) * b_) + (5 : Int32))).toNatClampNeg) = (1 : Int32) then (Φ (some (.int (2 : Int32))) (mk I J)) else (Φ (some (.int (0 : Int32))) (mk I J)))) else (mj_gd (mj_inB (((6 : Int32) * b_) + (1 : Int32)) 49) (if (I 106 ((((6 : Int32) * b_) + (1 : Int32))).toNatClampNeg) < (0 : Int32) then (Φ (some (.int (1 : Int32))) (mk I J)) else (Φ (some (.int (0 : Int32))) (mk I J))))))) :
    mj_Met Ω l false mX12_statusBy d 0 0 [.ref 91, .int b_, .int fl] (mk I J) Φ := mj_entry (by decide) rfl (fun h => (by cases h)) (Nat.le_of_ble_eq_true rfl) (mj_blk (μ := mX12_statusBy) (P := pX12_statusBy) (cut := cutX12_statusBy) (cs := csX12_statusBy) dX12_statusBy csX12_statusBy_ok hd 23 0 _ h)
def tX12_statusBy : mj_PT := fun as M Φ => match as with
  | [.ref this, .int b_, .int fl] => ((this = 91 ∧ mj_isk M) ∧ (∃ b : Nat, b_ = nI b ∧ ((okM M.2.2.1 ∧ b < nM M.2.2.1) ∧ Φ (some (.int (stat fl (VM M.2.2.1) b))) M)))
  | _ => False
theorem mnX12_statusBy {Ω : mj_Om} {l : Launch} {d : Nat} {Φ : Option Value → mj_M → Prop} (hd : 2 ≤ d) (b : Nat) (fl : Int32) (I : Nat → Nat → Int32) (J : Nat → Nat → Int64) (hp : okM I ∧ b < nM I) (h : Φ (some (.int (stat fl (VM I) b))) (mk I J)) : mj_Met Ω l false mX12_statusBy d 0 0 [.ref 91, .int (nI b), .int fl] (mk I J) Φ := by
  refine inX12_statusBy hd (nI b) fl I J ?_
  obtain ⟨⟨hc, hn⟩, hb⟩ := hp
  have h' : ∀ r, r = stat fl (VM I) b → Φ (some (.int r)) (mk I J) := fun r hr => hr ▸ h
  simp (disch := omega) only [jn_in, jn_cl, gd_dec, n6_0, n6_1, n6_2, n6_3, n6_4, n6_5]
  simp only [stat, VM_1 hb, VM_7 hb] at h'
  repeat' split
  all_goals exact h' _ (by simp [*])
theorem sdX12_statusBy : mj_Sd mX12_statusBy 2 tX12_statusBy := by
  intro Ω l d hd as M Φ h
  unfold tX12_statusBy at h
  split at h
  · rename_i z_this b_ fl
    obtain ⟨⟨rfl, hM⟩, b, rfl, hp, h⟩ := h
    rw [mj_isk_of hM]
    exact mnX12_statusBy hd b fl _ _ hp (by
      rw [mj_isk_of hM] at h
      exact h)
  · exact h.elim
def csX12_scoreBy : List (Nat × Nat × Nat × mj_PT) := [(283, 0, 3, mj_rcv 12 tX12_of), (292, 0, 3, mj_rcv 12 tX12_statusBy), (295, 1, 2, mj_ptmx), (297, 0, 2, mj_rcv 12 tX12_isShadowed)]
theorem csX12_scoreBy_ok : mj_Cs mX12_scoreBy 3 csX12_scoreBy := (mj_CsV (D' := 1) (ci := 12) (q := (RX12, TX12, 45)) sdX12_of (Nat.le_of_ble_eq_true rfl) fX12_of rfl rfl iX12_of vX12_of (by decide +kernel) l12_283 (mj_CsV (D' := 2) (ci := 12) (q := (RX12, TX12, 45)) sdX12_statusBy (Nat.le_of_ble_eq_true rfl) fX12_statusBy rfl rfl iX12_statusBy vX12_statusBy (by decide +kernel) l12_292 (mj_Csmx (Nat.le_of_ble_eq_true rfl) l12_295 (mj_CsV (D' := 2) (ci := 12) (q := (RX12, TX12, 45)) sdX12_isShadowed (Nat.le_of_ble_eq_true rfl) fX12_isShadowed rfl rfl iX12_isShadowed vX12_isShadowed (by decide +kernel) l12_297 mj_Cs0))))
def cutX12_scoreBy : List (Nat × List Bool) := []
set_option maxRecDepth 100000 in
set_option maxHeartbeats 4000000 in
theorem inX12_scoreBy {Ω : mj_Om} {l : Launch} {d : Nat} {Φ : Option Value → mj_M → Prop} (hd : 3 ≤ d) (b_ : Int32) (fl : Int32) (I : Nat → Nat → Int32) (J : Nat → Nat → Int64)
    (h : ((if (I 104 2) = (0 : Int32) then (mj_gd (mj_inB (((6 : Int32) * b_) + (0 : Int32)) 49) ((91 = 91 ∧ mj_isk (mk I J)) ∧ (∃ b7 : Nat, b_ = nI b7 ∧ ((okM I ∧ b7 < nM I) ∧ (mj_gd (!decide (((I 104 0) - (1 : Int32)) = 0)) (mj_gd (mj_inB (((6 : Int32) * b_) + (2 : Int32)) 49) (mj_gd (mj_inB (((6 : Int32) * b_) + (1 : Int32)) 49) ((91 = 91 ∧ mj_isk (mk I J)) ∧ ((okM I ∧ isB (nM I) b_ ∧ colB (nM I) (VM I)) ∧ (if (b2i (shad (nM I) (VM I) (b_).toNatClampNeg)) = (0 : Int32) then (if (stat fl (VM I) b7) = (1 : Int32) then (Φ (some (.int ((((((((5 : Int32) * (I 104 1)) * (((I 104 0) - (1 : Int32)) - (I 106 ((((6 : Int32) * b_) + (0 : Int32))).toNatClampNeg))) / ((I 104 0) - (1 : Int32))) + (I 106 ((((6 : Int32) * b_) + (2 : Int32))).toNatClampNeg)) - (if (0 : Int32) < (I 106 ((((6 : Int32) * b_) + (1 : Int32))).toNatClampNeg) then (I 106 ((((6 : Int32) * b_) + (1 : Int32))).toNatClampNeg) else (0 : Int32))) - (0 : Int32)) - (30 : Int32)))) (mk I J)) else (if (stat fl (VM I) b7) = (2 : Int32) then (Φ (some (.int ((((((((5 : Int32) * (I 104 1)) * (((I 104 0) - (1 : Int32)) - (I 106 ((((6 : Int32) * b_) + (0 : Int32))).toNatClampNeg))) / ((I 104 0) - (1 : Int32))) + (I 106 ((((6 : Int32) * b_) + (2 : Int32))).toNatClampNeg)) - (if (0 : Int32) < (I 106 ((((6 : Int32) * b_) + (1 : Int32))).toNatClampNeg) then (I 106 ((((6 : Int32) * b_) + (1 : Int32))).toNatClampNeg) else (0 : Int32))) - (0 : Int32)) - (100 : Int32)))) (mk I J)) else (Φ (some (.int ((((((((5 : Int32) * (I 104 1)) * (((I 104 0) - (1 : Int32)) - (I 106 ((((6 : Int32) * b_) + (0 : Int32))).toNatClampNeg))) / ((I 104 0) - (1 : Int32))) + (I 106 ((((6 : Int32) * b_) + (2 : Int32))).toNatClampNeg)) - (if (0 : Int32) < (I 106 ((((6 : Int32) * b_) + (1 : Int32))).toNatClampNeg) then (I 106 ((((6 : Int32) * b_) + (1 : Int32))).toNatClampNeg) else (0 : Int32))) - (0 : Int32)) - (0 : Int32)))) (mk I J)))) else (if (stat fl (VM I) b7) = (1 : Int32) then (Φ (some (.int ((((((((5 : Int32) * (I 104 1)) * (((I 104 0) - (1 : Int32)) - (I 106 ((((6 : Int32) * b_) + (0 : Int32))).toNatClampNeg))) / ((I 104 0) - (1 : Int32))) + (I 106 ((((6 : Int32) * b_) + (2 : Int32))).toNatClampNeg)) - (if (0 : Int32) < (I 106 ((((6 : Int32) * b_) + (1 : Int32))).toNatClampNeg) then (I 106 ((((6 : Int32) * b_) + (1 : Int32))).toNatClampNeg) else (0 : Int32))) - (5 : Int32)) - (30 : Int32)))) (mk I J)) else (if (stat fl (VM I) b7) = (2 : Int32) then (Φ (some (.int ((((((((5 : Int32) * (I 104 1)) * (((I 104 0) - (1 : Int32)) - (I 106 ((((6 : Int32) * b_) + (0 : Int32))).toNatClampNeg))) / ((I 104 0) - (1 : Int32))) + (I 106 ((((6 : Int32) * b_) + (2 : Int32))).toNatClampNeg)) - (if (0 : Int32) < (I 106 ((((6 : Int32) * b_) + (1 : Int32))).toNatClampNeg) then (I 106 ((((6 : Int32) * b_) + (1 : Int32))).toNatClampNeg) else (0 : Int32))) - (5 : Int32)) - (100 : Int32)))) (mk I J)) else (Φ (some (.int ((((((((5 : Int32) * (I 104 1)) * (((I 104 0) - (1 : Int32)) - (I 106 ((((6 : Int32) * b_) + (0 : Int32))).toNatClampNeg))) / ((I 104 0) - (1 : Int32))) + (I 106 ((((6 : Int32) * b_) + (2 : Int32))).toNatClampNeg)) - (if (0 : Int32) < (I 106 ((((6 : Int32) * b_) + (1 : Int32))).toNatClampNeg) then (I 106 ((((6 : Int32) * b_) + (1 : Int32))).toNatClampNeg) else (0 : Int32))) - (5 : Int32)) - (0 : Int32)))) (mk I J)))))))))))))) else (mj_gd (mj_inB (((6 : Int32) * b_) + (0 : Int32)) 49) ((91 = 91 ∧ mj_isk (mk I J)) ∧ (∃ b10 : Nat, b_ = nI b10 ∧ ((okM I ∧ b10 < nM I) ∧ (mj_gd (!decide (((I 104 0) - (1 : Int32)) = 0)) (mj_gd (mj_inB (((6 : Int32) * b_) + (2 : Int32)) 49) (mj_gd (mj_inB (((6 : Int32) * b_) + (1 : Int32)) 49) ((91 = 91 ∧ mj_isk (mk I J)) ∧ ((okM I ∧ isB (nM I) b_ ∧ colB (nM I) (VM I)) ∧ (if (b2i (shad (nM I) (VM I) (b_).toNatClampNeg)) = (0 : Int32) then (if (stat fl (VM I) b10) = (1 : Int32) then (Φ (some (.int ((((((((5 : Int32) * (I 104 1)) * (I 106 ((((6 : Int32) * b_) + (0 : Int32))).toNatClampNeg)) / ((I 104 0) - (1 : Int32))) + (I 106 ((((6 : Int32) * b_) + (2 : Int32))).toNatClampNeg)) - (if (0 : Int32) < (I 106 ((((6 : Int32) * b_) + (1 : Int32))).toNatClampNeg) then (I 106 ((((6 : Int32) * b_) + (1 : Int32))).toNatClampNeg) else (0 : Int32))) - (0 : Int32)) - (30 : Int32)))) (mk I J)) else (if (stat fl (VM I) b10) = (2 : Int32) then (Φ (some (.int ((((((((5 : Int32) * (I 104 1)) * (I 106 ((((6 : Int32) * b_) + (0 : Int32))).toNatClampNeg)) / ((I 104 0) - (1 : Int32))) + (I 106 ((((6 : Int32) * b_) + (2 : Int32))).toNatClampNeg)) - (if (0 : Int32) < (I 106 ((((6 : Int32) * b_) + (1 : Int32))).toNatClampNeg) then (I 106 ((((6 : Int32) * b_) + (1 : Int32))).toNatClampNeg) else (0 : Int32))) - (0 : Int32)) - (100 : Int32)))) (mk I J)) else (Φ (some (.int ((((((((5 : Int32) * (I 104 1)) * (I 106 ((((6 : Int32) * b_) + (0 : Int32))).toNatClampNeg)) / ((I 104 0) - (1 : Int32))) + (I 106 ((((6 : Int32) * b_) + (2 : Int32))).toNatClampNeg)) - (if (0 : Int32) < (I 106 ((((6 : Int32) * b_) + (1 : Int32))).toNatClampNeg) then (I 106 ((((6 : Int32) * b_) + (1 : Int32))).toNatClampNeg) else (0 : Int32))) - (0 : Int32)) - (0 : Int32)))) (mk I J)))) else (if (stat fl (VM I) b10) = (1 : Int32) then (Φ (some (.int ((((((((5 : Int32) * (I 104 1)) * (I 106 ((((6 : Int32) * b_) + (0 : Int32))).toNatClampNeg)) / ((I 104 0) - (1 : Int32))) + (I 106 ((((6 : Int32) * b_) + (2 : Int32))).toNatClampNeg)) - (if (0 : Int32) < (I 106 ((((6 : Int32) * b_) + (1 : Int32))).toNatClampNeg) then (I 106 ((((6 : Int32) * b_) + (1 : Int32))).toNatClampNeg) else (0 : Int32))) - (5 : Int32)) - (30 : Int32)))) (mk I J)) else (if (stat fl (VM I) b10) = (2 : Int32) then (Φ (some (.int ((((((((5 : Int32) * (I 104 1)) * (I 106 ((((6 : Int32) * b_) + (0 : Int32))).toNatClampNeg)) / ((I 104 0) - (1 : Int32))) + (I 106 ((((6 : Int32) * b_) + (2 : Int32))).toNatClampNeg)) - (if (0 : Int32) < (I 106 ((((6 : Int32) * b_) + (1 : Int32))).toNatClampNeg) then (I 106 ((((6 : Int32) * b_) + (1 : Int32))).toNatClampNeg) else (0 : Int32))) - (5 : Int32)) - (100 : Int32)))) (mk I J)) else (Φ (some (.int ((((((((5 : Int32) * (I 104 1)) * (I 106 ((((6 : Int32) * b_) + (0 : Int32))).toNatClampNeg)) / ((I 104 0) - (1 : Int32))) + (I 106 ((((6 : Int32) * b_) + (2 : Int32))).toNatClampNeg)) - (if (0 : Int32) < (I 106 ((((6 : Int32) * b_) + (1 : Int32))).toNatClampNeg) then (I 106 ((((6 : Int32) * b_) + (1 : Int32))).toNatClampNeg) else (0 : Int32))) - (5 : Int32)) - (0 : Int32)))) (mk I J))))))))))))))))) :
    mj_Met Ω l false mX12_scoreBy d 0 0 [.ref 91, .int b_, .int fl] (mk I J) Φ := mj_entry (by decide) rfl (fun h => (by cases h)) (Nat.le_of_ble_eq_true rfl) (mj_blk (μ := mX12_scoreBy) (P := pX12_scoreBy) (cut := cutX12_scoreBy) (cs := csX12_scoreBy) dX12_scoreBy csX12_scoreBy_ok hd 78 0 _ h)
def tX12_scoreBy : mj_PT := fun as M Φ => match as with
  | [.ref this, .int b_, .int fl] => ((this = 91 ∧ mj_isk M) ∧ (∃ b : Nat, b_ = nI b ∧ ((okM M.2.2.1 ∧ b < nM M.2.2.1 ∧ lineOk (lv7 (M.2.2.1 104)) ∧ colB (nM M.2.2.1) (VM M.2.2.1)) ∧ Φ (some (.int (score (nM M.2.2.1) (lv7 (M.2.2.1 104)) fl (VM M.2.2.1) b))) M)))
  | _ => False
theorem mnX12_scoreBy {Ω : mj_Om} {l : Launch} {d : Nat} {Φ : Option Value → mj_M → Prop} (hd : 3 ≤ d) (b : Nat) (fl : Int32) (I : Nat → Nat → Int32) (J : Nat → Nat → Int64) (hp : okM I ∧ b < nM I ∧ lineOk (lv7 (I 104)) ∧ colB (nM I) (VM I)) (h : Φ (some (.int (score (nM I) (lv7 (I 104)) fl (VM I) b))) (mk I J)) : mj_Met Ω l false mX12_scoreBy d 0 0 [.ref 91, .int (nI b), .int fl] (mk I J) Φ := by
  refine inX12_scoreBy hd (nI b) fl I J ?_
  obtain ⟨⟨hc, hn⟩, hb, hl, hcb⟩ := hp
  have hw := lineOk_w hl
  have h' : ∀ r, r = score (nM I) (lv7 (I 104)) fl (VM I) b → Φ (some (.int r)) (mk I J) := fun r hr => hr ▸ h
  clear h
  rw [lv7_at (by decide)] at hw
  simp (disch := omega) only [jn_in, jn_cl, gd_dec, n6_0, n6_1, n6_2, n6_3, n6_4, n6_5, hw.2, decide_false, Bool.not_false, gd_true]
  simp only [score, wcol, VM_0 hb, VM_1 hb, VM_2 hb, lv7_at (g := I 104) (show 0 < 7 by decide), lv7_at (g := I 104) (show 1 < 7 by decide), lv7_at (g := I 104) (show 2 < 7 by decide)] at h'
  split
  all_goals
    try simp (disch := omega) only [jn_in, jn_cl, gd_dec, n6_0, n6_1, n6_2, n6_3, n6_4, n6_5, hw.2, decide_false, Bool.not_false, gd_true]
    refine ⟨⟨by trivial, mj_isk_mk I J⟩, b, rfl, ⟨⟨hc, hn⟩, hb⟩, ?_⟩
    try simp (disch := omega) only [jn_in, jn_cl, gd_dec, n6_0, n6_1, n6_2, n6_3, n6_4, n6_5, hw.2, decide_false, Bool.not_false, gd_true]
    refine ⟨⟨by trivial, mj_isk_mk I J⟩, ⟨⟨hc, hn⟩, isB_nI hb hn, hcb⟩, ?_⟩
    try simp (disch := omega) only [jn_in, jn_cl, gd_dec, n6_0, n6_1, n6_2, n6_3, n6_4, n6_5]
    repeat' split
    all_goals exact h' _ (by grind [b2i_1, b2i_0])
theorem sdX12_scoreBy : mj_Sd mX12_scoreBy 3 tX12_scoreBy := by
  intro Ω l d hd as M Φ h
  unfold tX12_scoreBy at h
  split at h
  · rename_i z_this b_ fl
    obtain ⟨⟨rfl, hM⟩, b, rfl, hp, h⟩ := h
    rw [mj_isk_of hM]
    exact mnX12_scoreBy hd b fl _ _ hp (by
      rw [mj_isk_of hM] at h
      exact h)
  · exact h.elim
def csX12_scoreOf : List (Nat × Nat × Nat × mj_PT) := [(300, 0, 3, mj_rcv 12 tX12_scoreBy)]
theorem csX12_scoreOf_ok : mj_Cs mX12_scoreOf 4 csX12_scoreOf := (mj_CsV (D' := 3) (ci := 12) (q := (RX12, TX12, 45)) sdX12_scoreBy (Nat.le_of_ble_eq_true rfl) fX12_scoreBy rfl rfl iX12_scoreBy vX12_scoreBy (by decide +kernel) l12_300 mj_Cs0)
def tX12_scoreOf : mj_PT := mj_ptw mX12_scoreOf pX12_scoreOf csX12_scoreOf 9
theorem sdX12_scoreOf : mj_Sd mX12_scoreOf 4 tX12_scoreOf := mj_ptw_sd dX12_scoreOf ⟨by decide, rfl, fun h => (by cases h)⟩ csX12_scoreOf_ok
theorem tdv {x y : Int32} (hx : 0 ≤ x.toInt ∧ x.toInt ≤ 1000000) (hy : 1 ≤ y.toInt) : 0 ≤ (x / y).toInt ∧ (x / y).toInt ≤ x.toInt := by
  have e : (x / y).toInt = x.toInt.tdiv y.toInt := by
    rw [Int32.toInt_div]
    have h1 : 0 ≤ x.toInt.tdiv y.toInt := Int.tdiv_nonneg hx.1 (by omega)
    have h2 : x.toInt.tdiv y.toInt ≤ x.toInt := Int.tdiv_le_self _ hx.1
    exact Int.bmod_eq_of_le (by omega) (by omega)
  rw [e]
  exact ⟨Int.tdiv_nonneg hx.1 (by omega), Int.tdiv_le_self _ hx.1⟩
theorem i_mul {x y : Int32} (h : -2147483648 ≤ x.toInt * y.toInt ∧ x.toInt * y.toInt ≤ 2147483647) : (x * y).toInt = x.toInt * y.toInt := by
  rw [Int32.toInt_mul]; exact Int.bmod_eq_of_le (by simp; omega) (by simp; omega)
theorem wcol_b {C : Nat → Int32} {x : Int32} (hl : lineOk C) (hx : 0 ≤ x.toInt ∧ x.toInt < (C 0).toInt) : 0 ≤ (wcol C x).toInt ∧ (wcol C x).toInt ≤ 900 := by
  obtain ⟨l0, l1, l2, l3, l4, l5, l6⟩ := hl
  have e1 := s1 l0
  have e5 : (5 * C 1).toInt = 5 * (C 1).toInt := i_mul (x := 5) (by have : (5 : Int32).toInt = 5 := rfl; rw [this]; omega)
  have hz : ∀ z : Int32, 0 ≤ z.toInt ∧ z.toInt ≤ 19 → 0 ≤ (5 * C 1 * z / (C 0 - 1)).toInt ∧ (5 * C 1 * z / (C 0 - 1)).toInt ≤ 900 := by
    intro z hz
    have b1 : 0 ≤ (C 1).toInt * z.toInt := Int.mul_nonneg (by omega) (by omega)
    have b2 : (C 1).toInt * z.toInt ≤ 9 * 19 := Int.mul_le_mul (by omega) (by omega) (by omega) (by omega)
    have e6 : (5 * C 1 * z).toInt = 5 * ((C 1).toInt * z.toInt) := by
      rw [i_mul (by rw [e5, Int.mul_assoc]; omega), e5, Int.mul_assoc]
    have := tdv (x := 5 * C 1 * z) (y := C 0 - 1) (by rw [e6]; omega) (by omega)
    rw [e6] at this
    omega
  unfold wcol
  split
  · exact hz _ (by rw [i_sub (by omega)]; omega)
  · exact hz _ (by omega)
theorem stat_c (fl : Int32) (F : Vw) (b : Nat) : stat fl F b = 0 ∨ stat fl F b = 1 ∨ stat fl F b = 2 := by
  unfold stat
  repeat' split
  all_goals simp
theorem score_b {u : Int} {n : Nat} {C : Nat → Int32} {F : Vw} {s fl : Int32} {b : Nat} (hu : u ≤ 1000) (h : FOk u n C F s) (hb : b < n) : -2000 ≤ (score n C fl F b).toInt ∧ (score n C fl F b).toInt ≤ 1000 := by
  have hl := h.1
  have hF := h.2.2 b hb
  obtain ⟨b0, b1, b2, b3, b4⟩ := hF
  have hw := wcol_b hl b0
  have i5 : (5 : Int32).toInt = 5 := rfl
  unfold score
  have e1 : (wcol C (F 0 b) + F 2 b).toInt = (wcol C (F 0 b)).toInt + (F 2 b).toInt := i_add (by omega)
  have h2 : 0 ≤ (if 0 < F 1 b then F 1 b else 0).toInt ∧ (if 0 < F 1 b then F 1 b else 0).toInt ≤ 1000 := by
    split
    · rename_i q
      rw [Int32.lt_iff_toInt_lt, i_0] at q
      omega
    · exact ⟨by decide, by decide⟩
  have h3 : 0 ≤ (5 * b2i (shad n F b)).toInt ∧ (5 * b2i (shad n F b)).toInt ≤ 5 := by
    rcases b2i_or (shad n F b) with q | q <;> rw [q] <;> decide
  have h4 : 0 ≤ (if stat fl F b = 1 then (30 : Int32) else if stat fl F b = 2 then 100 else 0).toInt ∧ (if stat fl F b = 1 then (30 : Int32) else if stat fl F b = 2 then 100 else 0).toInt ≤ 100 := by
    repeat' split
    all_goals decide
  generalize (if 0 < F 1 b then F 1 b else 0) = x2 at *
  generalize 5 * b2i (shad n F b) = x3 at *
  generalize (if stat fl F b = 1 then (30 : Int32) else if stat fl F b = 2 then 100 else 0) = x4 at *
  have e2 : (wcol C (F 0 b) + F 2 b - x2).toInt = (wcol C (F 0 b)).toInt + (F 2 b).toInt - x2.toInt := by rw [i_sub (by omega), e1]
  have e3 : (wcol C (F 0 b) + F 2 b - x2 - x3).toInt = (wcol C (F 0 b)).toInt + (F 2 b).toInt - x2.toInt - x3.toInt := by rw [i_sub (by omega), e2]
  rw [i_sub (by omega), e3]
  omega
/-- a greater score by its difference -/
theorem more_i {x y : Int32} (hx : -2000 ≤ x.toInt ∧ x.toInt ≤ 1000) (hy : -2000 ≤ y.toInt ∧ y.toInt ≤ 1000) : (0 < x - y ↔ y < x) ∧ (x - y = 0 ↔ x = y) := by
  have e := i_sub (x := x) (y := y) (by omega)
  refine ⟨?_, ?_⟩
  · rw [Int32.lt_iff_toInt_lt, Int32.lt_iff_toInt_lt, e, i_0]; omega
  · rw [← Int32.toInt_inj, ← Int32.toInt_inj, e, i_0]; omega
def csX1_placeOf : List (Nat × Nat × Nat × mj_PT) := [(49, 0, 3, mj_rcv 1 tX1_scoreOf)]
theorem csX1_placeOf_ok : mj_Cs mX1_placeOf 4 csX1_placeOf := (mj_CsV (D' := 3) (ci := 1) (q := (RX1, TX1, 1)) sdX1_scoreOf (Nat.le_of_ble_eq_true rfl) fX1_scoreOf rfl rfl iX1_scoreOf vX1_scoreOf (by decide +kernel) l1_49 mj_Cs0)
def cutX1_placeOf : List (Nat × List Bool) := [(13, [true, true, true, true, true, true, false])]
set_option maxRecDepth 100000 in
set_option maxHeartbeats 4000000 in
theorem inX1_placeOf {Ω : mj_Om} {l : Launch} {d : Nat} {Φ : Option Value → mj_M → Prop} (hd : 4 ≤ d) (c f : Nat) (hf : isCF c f) (b_ : Int32) (I : Nat → Nat → Int32) (J : Nat → Nat → Int64)
    (h : (((isCF c f ∧ mj_isk (mk I J)) ∧ ((okF I f ∧ isB (nF I f) b_ ∧ lineOk (lv7 (I (c + 1)))) ∧ (mj_G Ω l false mX1_placeOf d 0 0 Φ 0 0 13 ([some (.ref c), some (.ref f), some (.int b_), some (.int (score (nF I f) (lv7 (I (c + 1))) (I (c + 1) 6) (VF I f) (b_).toNatClampNeg)), some (.int (1 : Int32)), some (.int (0 : Int32)), none], [], (mk I J))))))) :
    mj_Met Ω l false mX1_placeOf d 0 0 [.ref c, .ref f, .int b_] (mk I J) Φ := by
  rcases hf with ⟨rfl, rfl⟩ | ⟨rfl, rfl⟩ | ⟨rfl, rfl⟩ | ⟨rfl, rfl⟩ <;> exact mj_entry (by decide) rfl (fun h => (by cases h)) (Nat.le_of_ble_eq_true rfl) (mj_blk (μ := mX1_placeOf) (P := pX1_placeOf) (cut := cutX1_placeOf) (cs := csX1_placeOf) dX1_placeOf csX1_placeOf_ok hd 37 0 _ h)
set_option maxRecDepth 100000 in
set_option maxHeartbeats 4000000 in
theorem bX1_placeOf_13 {Ω : mj_Om} {l : Launch} {d : Nat} {Φ : Option Value → mj_M → Prop} (hd : 4 ≤ d) (c f : Nat) (hf : isCF c f) (x2 : Int32) (x3 : Int32) (x4 : Int32) (x5 : Int32) (I : Nat → Nat → Int32) (J : Nat → Nat → Int64)
    (h : ((if x5 < (I f 8) then (if x5 = x2 then (mj_G Ω l false mX1_placeOf d 0 0 Φ 0 0 13 ([some (.ref c), some (.ref f), some (.int x2), some (.int x3), some (.int x4), some (.int (x5 + (1 : Int32))), none], [], (mk I J))) else ((isCF c f ∧ mj_isk (mk I J)) ∧ ((okF I f ∧ isB (nF I f) x5 ∧ lineOk (lv7 (I (c + 1)))) ∧ (if x3 < (score (nF I f) (lv7 (I (c + 1))) (I (c + 1) 6) (VF I f) (x5).toNatClampNeg) then (mj_G Ω l false mX1_placeOf d 0 0 Φ 0 0 13 ([some (.ref c), some (.ref f), some (.int x2), some (.int x3), some (.int (x4 + (1 : Int32))), some (.int (x5 + (1 : Int32))), none], [], (mk I J))) else (if (score (nF I f) (lv7 (I (c + 1))) (I (c + 1) 6) (VF I f) (x5).toNatClampNeg) = x3 then (if x5 < x2 then (mj_G Ω l false mX1_placeOf d 0 0 Φ 0 0 13 ([some (.ref c), some (.ref f), some (.int x2), some (.int x3), some (.int (x4 + (1 : Int32))), some (.int (x5 + (1 : Int32))), none], [], (mk I J))) else (mj_G Ω l false mX1_placeOf d 0 0 Φ 0 0 13 ([some (.ref c), some (.ref f), some (.int x2), some (.int x3), some (.int x4), some (.int (x5 + (1 : Int32))), none], [], (mk I J)))) else (mj_G Ω l false mX1_placeOf d 0 0 Φ 0 0 13 ([some (.ref c), some (.ref f), some (.int x2), some (.int x3), some (.int x4), some (.int (x5 + (1 : Int32))), none], [], (mk I J)))))))) else (Φ (some (.int x4)) (mk I J))))) :
    mj_G Ω l false mX1_placeOf d 0 0 Φ 0 0 13 ([some (.ref c), some (.ref f), some (.int x2), some (.int x3), some (.int x4), some (.int x5), none], [], mk I J) := by
  rcases hf with ⟨rfl, rfl⟩ | ⟨rfl, rfl⟩ | ⟨rfl, rfl⟩ | ⟨rfl, rfl⟩ <;> exact mj_blk (μ := mX1_placeOf) (P := pX1_placeOf) (cut := cutX1_placeOf) (cs := csX1_placeOf) dX1_placeOf csX1_placeOf_ok hd 37 13 _ h
def tX1_placeOf : mj_PT := fun as M Φ => match as with
  | [.ref this, .ref f_, .int b_] => ((isCF this f_ ∧ mj_isk M) ∧ (∃ b : Nat, b_ = nI b ∧ ((okF M.2.2.1 f_ ∧ b < nF M.2.2.1 f_ ∧ lineOk (lv7 (M.2.2.1 (this + 1)))) ∧ Φ (some (.int (nI (place (nF M.2.2.1 f_) (lv7 (M.2.2.1 (this + 1))) (M.2.2.1 (this + 1) 6) (VF M.2.2.1 f_) b)))) M)))
  | _ => False
theorem mnX1_placeOf {Ω : mj_Om} {l : Launch} {d : Nat} {Φ : Option Value → mj_M → Prop} (hd : 4 ≤ d) (c f : Nat) (hf : isCF c f) (b : Nat) (I : Nat → Nat → Int32) (J : Nat → Nat → Int64) (hp : okF I f ∧ b < nF I f ∧ lineOk (lv7 (I (c + 1)))) (h : Φ (some (.int (nI (place (nF I f) (lv7 (I (c + 1))) (I (c + 1) 6) (VF I f) b)))) (mk I J)) : mj_Met Ω l false mX1_placeOf d 0 0 [.ref c, .ref f, .int (nI b)] (mk I J) Φ := by
  refine inX1_placeOf hd c f hf (nI b) I J ?_
  obtain ⟨⟨hc, hn⟩, hb, hl⟩ := hp
  refine ⟨⟨hf, mj_isk_mk I J⟩, ⟨⟨hc, hn⟩, isB_nI hb hn, hl⟩, ?_⟩
  simp (disch := omega) only [jn_cl]
  refine lp_cnt (G := fun i s => mj_G Ω l false mX1_placeOf d 0 0 Φ 0 0 13 ([some (.ref c), some (.ref f), some (.int (nI b)), some (.int (score (nF I f) (lv7 (I (c + 1))) (I (c + 1) 6) (VF I f) b)), some (.int (nI (1 + s))), some (.int (nI i)), none], [], mk I J)) (n := nF I f) (fun i => ¬ i = b ∧ (score (nF I f) (lv7 (I (c + 1))) (I (c + 1) 6) (VF I f) b < score (nF I f) (lv7 (I (c + 1))) (I (c + 1) 6) (VF I f) i ∨ (score (nF I f) (lv7 (I (c + 1))) (I (c + 1) 6) (VF I f) i = score (nF I f) (lv7 (I (c + 1))) (I (c + 1) 6) (VF I f) b ∧ i < b))) (fun i s hi hs h1 h0 => ?_) ?_
  · refine bX1_placeOf_13 hd c f hf (nI b) (score (nF I f) (lv7 (I (c + 1))) (I (c + 1) 6) (VF I f) b) (nI (1 + s)) (nI i) I J ?_
    simp (disch := omega) only [hc, jn_lt, jn_le, jn_eq, jn_cl, jn_in, jn_succ, gd_dec, if_pos, if_neg, n6_0, n6_1, n6_2, n6_3, n6_4, n6_5]
    split
    · exact h0 (fun q => q.1 (by assumption))
    · refine ⟨⟨hf, mj_isk_mk I J⟩, ⟨⟨hc, hn⟩, isB_nI hi hn, hl⟩, ?_⟩
      repeat' split
      all_goals first
        | exact h1 (by grind)
        | exact h0 (by grind)
  · refine bX1_placeOf_13 hd c f hf (nI b) (score (nF I f) (lv7 (I (c + 1))) (I (c + 1) 6) (VF I f) b) _ (nI (nF I f)) I J ?_
    simp (disch := omega) only [hc, jn_lt, jn_le, jn_eq, jn_cl, jn_in, jn_succ, gd_dec, if_pos, if_neg, n6_0, n6_1, n6_2, n6_3, n6_4, n6_5]
    exact h
theorem sdX1_placeOf : mj_Sd mX1_placeOf 4 tX1_placeOf := by
  intro Ω l d hd as M Φ h
  unfold tX1_placeOf at h
  split at h
  · rename_i c f b_
    obtain ⟨⟨hf, hM⟩, b, rfl, hp, h⟩ := h
    rw [mj_isk_of hM]
    exact mnX1_placeOf hd c f hf b _ _ hp (by
      rw [mj_isk_of hM] at h
      exact h)
  · exact h.elim
def csX12_placeBy : List (Nat × Nat × Nat × mj_PT) := [(300, 0, 3, mj_rcv 12 tX12_scoreBy)]
theorem csX12_placeBy_ok : mj_Cs mX12_placeBy 4 csX12_placeBy := (mj_CsV (D' := 3) (ci := 12) (q := (RX12, TX12, 45)) sdX12_scoreBy (Nat.le_of_ble_eq_true rfl) fX12_scoreBy rfl rfl iX12_scoreBy vX12_scoreBy (by decide +kernel) l12_300 mj_Cs0)
def cutX12_placeBy : List (Nat × List Bool) := [(5, [true, true, true, true, true, false])]
set_option maxRecDepth 100000 in
set_option maxHeartbeats 4000000 in
theorem inX12_placeBy {Ω : mj_Om} {l : Launch} {d : Nat} {Φ : Option Value → mj_M → Prop} (hd : 4 ≤ d) (b_ : Int32) (fl : Int32) (I : Nat → Nat → Int32) (J : Nat → Nat → Int64)
    (h : ((mj_G Ω l false mX12_placeBy d 0 0 Φ 0 0 5 ([some (.ref 91), some (.int b_), some (.int fl), some (.int (1 : Int32)), some (.int (0 : Int32)), none], [], (mk I J))))) :
    mj_Met Ω l false mX12_placeBy d 0 0 [.ref 91, .int b_, .int fl] (mk I J) Φ := mj_entry (by decide) rfl (fun h => (by cases h)) (Nat.le_of_ble_eq_true rfl) (mj_blk (μ := mX12_placeBy) (P := pX12_placeBy) (cut := cutX12_placeBy) (cs := csX12_placeBy) dX12_placeBy csX12_placeBy_ok hd 39 0 _ h)
set_option maxRecDepth 100000 in
set_option maxHeartbeats 4000000 in
theorem bX12_placeBy_5 {Ω : mj_Om} {l : Launch} {d : Nat} {Φ : Option Value → mj_M → Prop} (hd : 4 ≤ d) (x1 : Int32) (x2 : Int32) (x3 : Int32) (x4 : Int32) (I : Nat → Nat → Int32) (J : Nat → Nat → Int64)
    (h : ((if x4 < (I 91 22) then ((91 = 91 ∧ mj_isk (mk I J)) ∧ (∃ b19 : Nat, x4 = nI b19 ∧ ((okM I ∧ b19 < nM I ∧ lineOk (lv7 (I 104)) ∧ colB (nM I) (VM I)) ∧ ((91 = 91 ∧ mj_isk (mk I J)) ∧ (∃ b22 : Nat, x1 = nI b22 ∧ ((okM I ∧ b22 < nM I ∧ lineOk (lv7 (I 104)) ∧ colB (nM I) (VM I)) ∧ (if x4 = x1 then (mj_G Ω l false mX12_placeBy d 0 0 Φ 0 0 5 ([some (.ref 91), some (.int x1), some (.int x2), some (.int (x3 + (0 : Int32))), some (.int (x4 + (1 : Int32))), none], [], (mk I J))) else (if (0 : Int32) < ((score (nM I) (lv7 (I 104)) x2 (VM I) b19) - (score (nM I) (lv7 (I 104)) x2 (VM I) b22)) then (mj_G Ω l false mX12_placeBy d 0 0 Φ 0 0 5 ([some (.ref 91), some (.int x1), some (.int x2), some (.int (x3 + (1 : Int32))), some (.int (x4 + (1 : Int32))), none], [], (mk I J))) else (if ((score (nM I) (lv7 (I 104)) x2 (VM I) b19) - (score (nM I) (lv7 (I 104)) x2 (VM I) b22)) = (0 : Int32) then (if x4 < x1 then (mj_G Ω l false mX12_placeBy d 0 0 Φ 0 0 5 ([some (.ref 91), some (.int x1), some (.int x2), some (.int (x3 + (1 : Int32))), some (.int (x4 + (1 : Int32))), none], [], (mk I J))) else (mj_G Ω l false mX12_placeBy d 0 0 Φ 0 0 5 ([some (.ref 91), some (.int x1), some (.int x2), some (.int (x3 + (0 : Int32))), some (.int (x4 + (1 : Int32))), none], [], (mk I J)))) else (mj_G Ω l false mX12_placeBy d 0 0 Φ 0 0 5 ([some (.ref 91), some (.int x1), some (.int x2), some (.int (x3 + (0 : Int32))), some (.int (x4 + (1 : Int32))), none], [], (mk I J)))))))))))) else (Φ (some (.int x3)) (mk I J))))) :
    mj_G Ω l false mX12_placeBy d 0 0 Φ 0 0 5 ([some (.ref 91), some (.int x1), some (.int x2), some (.int x3), some (.int x4), none], [], mk I J) := mj_blk (μ := mX12_placeBy) (P := pX12_placeBy) (cut := cutX12_placeBy) (cs := csX12_placeBy) dX12_placeBy csX12_placeBy_ok hd 39 5 _ h
def tX12_placeBy : mj_PT := fun as M Φ => match as with
  | [.ref this, .int b_, .int fl] => ((this = 91 ∧ mj_isk M) ∧ (∃ b : Nat, b_ = nI b ∧ (∃ u : Int, ((u ≤ 1000 ∧ FM u M.2.2.1 ∧ b < nM M.2.2.1) ∧ Φ (some (.int (nI (place (nM M.2.2.1) (lv7 (M.2.2.1 104)) fl (VM M.2.2.1) b)))) M))))
  | _ => False
theorem mnX12_placeBy {Ω : mj_Om} {l : Launch} {d : Nat} {Φ : Option Value → mj_M → Prop} (hd : 4 ≤ d) (b : Nat) (fl : Int32) (u : Int) (I : Nat → Nat → Int32) (J : Nat → Nat → Int64) (hp : u ≤ 1000 ∧ FM u I ∧ b < nM I) (h : Φ (some (.int (nI (place (nM I) (lv7 (I 104)) fl (VM I) b)))) (mk I J)) : mj_Met Ω l false mX12_placeBy d 0 0 [.ref 91, .int (nI b), .int fl] (mk I J) Φ := by
  refine inX12_placeBy hd (nI b) fl I J ?_
  obtain ⟨hu, ⟨⟨hc, hn⟩, hF⟩, hb⟩ := hp
  have hl := hF.1
  have hcb := FOk_col hF
  refine lp_cnt (G := fun i s => mj_G Ω l false mX12_placeBy d 0 0 Φ 0 0 5 ([some (.ref 91), some (.int (nI b)), some (.int fl), some (.int (nI (1 + s))), some (.int (nI i)), none], [], mk I J)) (n := nM I) (fun i => ¬ i = b ∧ (score (nM I) (lv7 (I 104)) fl (VM I) b < score (nM I) (lv7 (I 104)) fl (VM I) i ∨ (score (nM I) (lv7 (I 104)) fl (VM I) i = score (nM I) (lv7 (I 104)) fl (VM I) b ∧ i < b))) (fun i s hi hs h1 h0 => ?_) ?_
  · refine bX12_placeBy_5 hd (nI b) fl (nI (1 + s)) (nI i) I J ?_
    have hm := more_i (score_b (fl := fl) hu hF hi) (score_b (fl := fl) hu hF hb)
    simp (disch := omega) only [hc, jn_lt, jn_le, jn_eq, jn_cl, jn_in, jn_succ, gd_dec, if_pos, if_neg, n6_0, n6_1, n6_2, n6_3, n6_4, n6_5]
    refine ⟨⟨by trivial, mj_isk_mk I J⟩, i, rfl, ⟨⟨hc, hn⟩, hi, hl, hcb⟩, ⟨by trivial, mj_isk_mk I J⟩, b, rfl, ⟨⟨hc, hn⟩, hb, hl, hcb⟩, ?_⟩
    simp (disch := omega) only [hc, jn_lt, jn_le, jn_eq, jn_cl, jn_in, jn_succ, gd_dec, if_pos, if_neg, n6_0, n6_1, n6_2, n6_3, n6_4, n6_5, Int32.add_zero, hm.1, hm.2]
    repeat' split
    all_goals first
      | exact h1 (by grind)
      | exact h0 (by grind)
  · refine bX12_placeBy_5 hd (nI b) fl _ (nI (nM I)) I J ?_
    simp (disch := omega) only [hc, jn_lt, jn_le, jn_eq, jn_cl, jn_in, jn_succ, gd_dec, if_pos, if_neg, n6_0, n6_1, n6_2, n6_3, n6_4, n6_5]
    exact h
theorem sdX12_placeBy : mj_Sd mX12_placeBy 4 tX12_placeBy := by
  intro Ω l d hd as M Φ h
  unfold tX12_placeBy at h
  split at h
  · rename_i z_this b_ fl
    obtain ⟨⟨rfl, hM⟩, b, rfl, u, hp, h⟩ := h
    rw [mj_isk_of hM]
    exact mnX12_placeBy hd b fl u _ _ hp (by
      rw [mj_isk_of hM] at h
      exact h)
  · exact h.elim
def csX12_placeOf : List (Nat × Nat × Nat × mj_PT) := [(303, 0, 3, mj_rcv 12 tX12_placeBy)]
theorem csX12_placeOf_ok : mj_Cs mX12_placeOf 5 csX12_placeOf := (mj_CsV (D' := 4) (ci := 12) (q := (RX12, TX12, 45)) sdX12_placeBy (Nat.le_of_ble_eq_true rfl) fX12_placeBy rfl rfl iX12_placeBy vX12_placeBy (by decide +kernel) l12_303 mj_Cs0)
def tX12_placeOf : mj_PT := mj_ptw mX12_placeOf pX12_placeOf csX12_placeOf 9
theorem sdX12_placeOf : mj_Sd mX12_placeOf 5 tX12_placeOf := mj_ptw_sd dX12_placeOf ⟨by decide, rfl, fun h => (by cases h)⟩ csX12_placeOf_ok
