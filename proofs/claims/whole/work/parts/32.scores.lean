/-! ===== scores and places (by program, wip/whole/pb.py) ===== -/
def lv7 (g : Nat → Int32) : Nat → Int32 := fun k => if k < 7 then g k else 0
theorem lv7_at {g : Nat → Int32} {k : Nat} (h : k < 7) : lv7 g k = g k := by simp [lv7, h]
/-- what a line may hold -/
def lineOk (C : Nat → Int32) : Prop := (2 ≤ (C 0).toInt ∧ (C 0).toInt ≤ 20) ∧ (0 ≤ (C 1).toInt ∧ (C 1).toInt ≤ 9) ∧ (0 ≤ (C 2).toInt ∧ (C 2).toInt ≤ 1) ∧ (0 ≤ (C 3).toInt ∧ (C 3).toInt ≤ 9) ∧ (0 ≤ (C 4).toInt ∧ (C 4).toInt ≤ 9) ∧ (1 ≤ (C 5).toInt ∧ (C 5).toInt ≤ 60) ∧ (0 ≤ (C 6).toInt ∧ (C 6).toInt ≤ 1)
theorem s1 {x : Int32} (h : 2 ≤ x.toInt ∧ x.toInt ≤ 20) : (x - 1).toInt = x.toInt - 1 := by
  rw [Int32.toInt_sub]; exact Int.bmod_eq_of_le (by simp; omega) (by simp; omega)
theorem lineOk_w {C : Nat → Int32} (h : lineOk C) : ¬ C 0 - 1 < 1 ∧ ¬ C 0 - 1 = 0 := by
  have e := s1 h.1
  refine ⟨fun q => ?_, fun q => ?_⟩
  · rw [Int32.lt_iff_toInt_lt, e] at q
    have : (1 : Int32).toInt = 1 := rfl
    have := h.1
    omega
  · rw [← Int32.toInt_inj, e] at q
    have : (0 : Int32).toInt = 0 := rfl
    have := h.1
    omega
def stat (fl : Int32) (F : Vw) (b : Nat) : Int32 := if fl = 1 then (if F 7 b = 1 then 2 else 0) else (if F 1 b < 0 then 1 else 0)
def wcol (C : Nat → Int32) (x : Int32) : Int32 := 5 * C 1 * (if C 2 = 0 then C 0 - 1 - x else x) / (C 0 - 1)
noncomputable def score (n : Nat) (C : Nat → Int32) (fl : Int32) (F : Vw) (b : Nat) : Int32 := wcol C (F 0 b) + F 2 b - (if 0 < F 1 b then F 1 b else 0) - (5 * b2i (shad n F b)) - (if stat fl F b = 1 then 30 else if stat fl F b = 2 then 100 else 0)
noncomputable def place (n : Nat) (C : Nat → Int32) (fl : Int32) (F : Vw) (b : Nat) : Nat := 1 + cnt (fun i => ¬ i = b ∧ (score n C fl F b < score n C fl F i ∨ (score n C fl F i = score n C fl F b ∧ i < b))) n
def csX1_worthOfColumn : List (Nat × Nat × Nat × mj_PT) := []
theorem csX1_worthOfColumn_ok : mj_Cs mX1_worthOfColumn 1 csX1_worthOfColumn := mj_Cs0
def cutX1_worthOfColumn : List (Nat × List Bool) := []
set_option maxRecDepth 100000 in
set_option maxHeartbeats 4000000 in
theorem inX1_worthOfColumn {Ω : mj_Om} {l : Launch} {d : Nat} {Φ : Option Value → mj_M → Prop} (hd : 1 ≤ d) (c : Nat) (hc : isC2 c) (x : Int32) (I : Nat → Nat → Int32) (J : Nat → Nat → Int64)
    (h : ((if (I (c + 1) 2) = (0 : Int32) then (if ((I (c + 1) 0) - (1 : Int32)) < (1 : Int32) then (Φ (some (.int (0 : Int32))) (mk I J)) else (mj_gd (!decide (((I (c + 1) 0) - (1 : Int32)) = 0)) (Φ (some (.int ((((5 : Int32) * (I (c + 1) 1)) * (((I (c + 1) 0) - (1 : Int32)) - x)) / ((I (c + 1) 0) - (1 : Int32))))) (mk I J)))) else (if ((I (c + 1) 0) - (1 : Int32)) < (1 : Int32) then (Φ (some (.int (0 : Int32))) (mk I J)) else (mj_gd (!decide (((I (c + 1) 0) - (1 : Int32)) = 0)) (Φ (some (.int ((((5 : Int32) * (I (c + 1) 1)) * x) / ((I (c + 1) 0) - (1 : Int32))))) (mk I J))))))) :
    mj_Met Ω l false mX1_worthOfColumn d 0 0 [.ref c, .int x] (mk I J) Φ := by
  rcases hc with rfl | rfl <;> exact mj_entry (by decide) rfl (fun h => (by cases h)) (Nat.le_of_ble_eq_true rfl) (mj_blk (μ := mX1_worthOfColumn) (P := pX1_worthOfColumn) (cut := cutX1_worthOfColumn) (cs := csX1_worthOfColumn) dX1_worthOfColumn csX1_worthOfColumn_ok hd 35 0 _ h)
def tX1_worthOfColumn : mj_PT := fun as M Φ => match as with
  | [.ref this, .int x] => (isC2 this ∧ mj_isk M) ∧ (lineOk (lv7 (M.2.2.1 (this + 1)))) ∧ Φ (some (.int (wcol (lv7 (M.2.2.1 (this + 1))) x))) M
  | _ => False
theorem mnX1_worthOfColumn {Ω : mj_Om} {l : Launch} {d : Nat} {Φ : Option Value → mj_M → Prop} (hd : 1 ≤ d) (c : Nat) (hc : isC2 c) (x : Int32) (I : Nat → Nat → Int32) (J : Nat → Nat → Int64) (hp : lineOk (lv7 (I (c + 1)))) (h : Φ (some (.int (wcol (lv7 (I (c + 1))) x))) (mk I J)) : mj_Met Ω l false mX1_worthOfColumn d 0 0 [.ref c, .int x] (mk I J) Φ := by
  refine inX1_worthOfColumn hd c hc x I J ?_
  have hw := lineOk_w hp
  have h' : ∀ r, r = wcol (lv7 (I (c + 1))) x → Φ (some (.int r)) (mk I J) := fun r hr => hr ▸ h
  rw [lv7_at (by decide)] at hw
  simp only [if_neg hw.1, if_neg hw.2, decide_false, hw.2, Bool.not_false, gd_true]
  simp only [wcol, lv7_at (g := I (c + 1)) (show 0 < 7 by decide), lv7_at (g := I (c + 1)) (show 1 < 7 by decide), lv7_at (g := I (c + 1)) (show 2 < 7 by decide)] at h'
  split
  all_goals
    refine h' _ ?_
    rename_i q
    simp only [q, if_true, if_false]
theorem sdX1_worthOfColumn : mj_Sd mX1_worthOfColumn 1 tX1_worthOfColumn := by
  intro Ω l d hd as M Φ h
  unfold tX1_worthOfColumn at h
  split at h
  · rename_i c x
    obtain ⟨⟨hc, hM⟩, hp, h⟩ := h
    rw [mj_isk_of hM]
    exact mnX1_worthOfColumn hd c hc x _ _ hp (by
      rw [mj_isk_of hM] at h
      exact h)
  · exact h.elim
def csX1_statusOf : List (Nat × Nat × Nat × mj_PT) := []
theorem csX1_statusOf_ok : mj_Cs mX1_statusOf 1 csX1_statusOf := mj_Cs0
def cutX1_statusOf : List (Nat × List Bool) := []
set_option maxRecDepth 100000 in
set_option maxHeartbeats 4000000 in
theorem inX1_statusOf {Ω : mj_Om} {l : Launch} {d : Nat} {Φ : Option Value → mj_M → Prop} (hd : 1 ≤ d) (c f : Nat) (hf : isCF c f) (b : Int32) (I : Nat → Nat → Int32) (J : Nat → Nat → Int64)
    (h : ((if (I (c + 1) 6) = (1 : Int32) then (mj_gd (mj_inB b 8) (if (I (f + 8) (b).toNatClampNeg) = (1 : Int32) then (Φ (some (.int (2 : Int32))) (mk I J)) else (Φ (some (.int (0 : Int32))) (mk I J)))) else (mj_gd (mj_inB b 8) (if (I (f + 2) (b).toNatClampNeg) < (0 : Int32) then (Φ (some (.int (1 : Int32))) (mk I J)) else (Φ (some (.int (0 : Int32))) (mk I J))))))) :
    mj_Met Ω l false mX1_statusOf d 0 0 [.ref c, .ref f, .int b] (mk I J) Φ := by
  rcases hf with ⟨rfl, rfl⟩ | ⟨rfl, rfl⟩ | ⟨rfl, rfl⟩ | ⟨rfl, rfl⟩ <;> exact mj_entry (by decide) rfl (fun h => (by cases h)) (Nat.le_of_ble_eq_true rfl) (mj_blk (μ := mX1_statusOf) (P := pX1_statusOf) (cut := cutX1_statusOf) (cs := csX1_statusOf) dX1_statusOf csX1_statusOf_ok hd 26 0 _ h)
def tX1_statusOf : mj_PT := fun as M Φ => match as with
  | [.ref this, .ref f, .int b] => (isCF this f ∧ mj_isk M) ∧ (nF M.2.2.1 f ≤ 8 ∧ isB (nF M.2.2.1 f) b) ∧ Φ (some (.int (stat (M.2.2.1 (this + 1) 6) (VF M.2.2.1 f) (b).toNatClampNeg))) M
  | _ => False
theorem mnX1_statusOf {Ω : mj_Om} {l : Launch} {d : Nat} {Φ : Option Value → mj_M → Prop} (hd : 1 ≤ d) (c f : Nat) (hf : isCF c f) (b : Int32) (I : Nat → Nat → Int32) (J : Nat → Nat → Int64) (hp : nF I f ≤ 8 ∧ isB (nF I f) b) (h : Φ (some (.int (stat (I (c + 1) 6) (VF I f) (b).toNatClampNeg))) (mk I J)) : mj_Met Ω l false mX1_statusOf d 0 0 [.ref c, .ref f, .int b] (mk I J) Φ := by
  refine inX1_statusOf hd c f hf b I J ?_
  obtain ⟨hn, hb, hbn⟩ := hp
  have h' : ∀ r, r = stat (I (c + 1) 6) (VF I f) b.toNatClampNeg → Φ (some (.int r)) (mk I J) := fun r hr => hr ▸ h
  clear h
  generalize hk : b.toNatClampNeg = k at *
  have e0 := VF_0 (I := I) (f := f) hbn
  have e1 := VF_1 (I := I) (f := f) hbn
  have e2 := VF_2 (I := I) (f := f) hbn
  have e7 := VF_7 (I := I) (f := f) hbn
  have hin : mj_inB b 8 = true := by rw [hb, jn_in (by omega)]; simp; omega
  
  simp only [hin, gd_true]
  simp only [stat, e1, e7] at h'
  repeat' split
  all_goals exact h' _ (by simp [*])
theorem sdX1_statusOf : mj_Sd mX1_statusOf 1 tX1_statusOf := by
  intro Ω l d hd as M Φ h
  unfold tX1_statusOf at h
  split at h
  · rename_i c f b
    obtain ⟨⟨hf, hM⟩, hp, h⟩ := h
    rw [mj_isk_of hM]
    exact mnX1_statusOf hd c f hf b _ _ hp (by
      rw [mj_isk_of hM] at h
      exact h)
  · exact h.elim
def csX1_scoreOf : List (Nat × Nat × Nat × mj_PT) := [(34, 0, 2, mj_rcv 1 tX1_worthOfColumn), (41, 0, 2, mj_rcv 3 tX3_isShadowed), (45, 0, 3, mj_rcv 1 tX1_statusOf)]
theorem csX1_scoreOf_ok : mj_Cs mX1_scoreOf 3 csX1_scoreOf := (mj_CsV (D' := 1) (ci := 1) (q := (RX1, TX1, 1)) sdX1_worthOfColumn (Nat.le_of_ble_eq_true rfl) fX1_worthOfColumn rfl rfl iX1_worthOfColumn vX1_worthOfColumn (by decide +kernel) l1_34 (mj_CsV (D' := 2) (ci := 3) (q := (RX3, TX3, 10)) sdX3_isShadowed (Nat.le_of_ble_eq_true rfl) fX3_isShadowed rfl rfl iX3_isShadowed vX3_isShadowed (by decide +kernel) l1_41 (mj_CsV (D' := 1) (ci := 1) (q := (RX1, TX1, 1)) sdX1_statusOf (Nat.le_of_ble_eq_true rfl) fX1_statusOf rfl rfl iX1_statusOf vX1_statusOf (by decide +kernel) l1_45 mj_Cs0)))
def cutX1_scoreOf : List (Nat × List Bool) := []
set_option maxRecDepth 100000 in
set_option maxHeartbeats 4000000 in
theorem inX1_scoreOf {Ω : mj_Om} {l : Launch} {d : Nat} {Φ : Option Value → mj_M → Prop} (hd : 3 ≤ d) (c f : Nat) (hf : isCF c f) (b : Int32) (I : Nat → Nat → Int32) (J : Nat → Nat → Int64)
    (h : ((mj_gd (mj_inB b 8) ((isC2 c ∧ mj_isk (mk I J)) ∧ ((lineOk (lv7 (I (c + 1)))) ∧ (mj_gd (mj_inB b 8) (mj_gd (mj_inB b 8) (if (0 : Int32) < (I (f + 2) (b).toNatClampNeg) then (mj_gd (mj_inB b 8) ((isF3 f ∧ mj_isk (mk I J)) ∧ ((okF I f ∧ isB (nF I f) b) ∧ (if (b2i (shad (nF I f) (VF I f) (b).toNatClampNeg)) = (0 : Int32) then ((isCF c f ∧ mj_isk (mk I J)) ∧ ((nF I f ≤ 8 ∧ isB (nF I f) b) ∧ (if (stat (I (c + 1) 6) (VF I f) (b).toNatClampNeg) = (1 : Int32) then (if (stat (I (c + 1) 6) (VF I f) (b).toNatClampNeg) = (2 : Int32) then (Φ (some (.int (((((wcol (lv7 (I (c + 1))) (I (f + 1) (b).toNatClampNeg)) + (I (f + 3) (b).toNatClampNeg)) - (I (f + 2) (b).toNatClampNeg)) + (-30 : Int32)) - (100 : Int32)))) (mk I J)) else (Φ (some (.int ((((wcol (lv7 (I (c + 1))) (I (f + 1) (b).toNatClampNeg)) + (I (f + 3) (b).toNatClampNeg)) - (I (f + 2) (b).toNatClampNeg)) + (-30 : Int32)))) (mk I J))) else (if (stat (I (c + 1) 6) (VF I f) (b).toNatClampNeg) = (2 : Int32) then (Φ (some (.int ((((wcol (lv7 (I (c + 1))) (I (f + 1) (b).toNatClampNeg)) + (I (f + 3) (b).toNatClampNeg)) - (I (f + 2) (b).toNatClampNeg)) - (100 : Int32)))) (mk I J)) else (Φ (some (.int (((wcol (lv7 (I (c + 1))) (I (f + 1) (b).toNatClampNeg)) + (I (f + 3) (b).toNatClampNeg)) - (I (f + 2) (b).toNatClampNeg)))) (mk I J)))))) else ((isCF c f ∧ mj_isk (mk I J)) ∧ ((nF I f ≤ 8 ∧ isB (nF I f) b) ∧ (if (stat (I (c + 1) 6) (VF I f) (b).toNatClampNeg) = (1 : Int32) then (if (stat (I (c + 1) 6) (VF I f) (b).toNatClampNeg) = (2 : Int32) then (Φ (some (.int ((((((wcol (lv7 (I (c + 1))) (I (f + 1) (b).toNatClampNeg)) + (I (f + 3) (b).toNatClampNeg)) - (I (f + 2) (b).toNatClampNeg)) + (-5 : Int32)) + (-30 : Int32)) - (100 : Int32)))) (mk I J)) else (Φ (some (.int (((((wcol (lv7 (I (c + 1))) (I (f + 1) (b).toNatClampNeg)) + (I (f + 3) (b).toNatClampNeg)) - (I (f + 2) (b).toNatClampNeg)) + (-5 : Int32)) + (-30 : Int32)))) (mk I J))) else (if (stat (I (c + 1) 6) (VF I f) (b).toNatClampNeg) = (2 : Int32) then (Φ (some (.int (((((wcol (lv7 (I (c + 1))) (I (f + 1) (b).toNatClampNeg)) + (I (f + 3) (b).toNatClampNeg)) - (I (f + 2) (b).toNatClampNeg)) + (-5 : Int32)) - (100 : Int32)))) (mk I J)) else (Φ (some (.int ((((wcol (lv7 (I (c + 1))) (I (f + 1) (b).toNatClampNeg)) + (I (f + 3) (b).toNatClampNeg)) - (I (f + 2) (b).toNatClampNeg)) + (-5 : Int32)))) (mk I J)))))))))) else ((isF3 f ∧ mj_isk (mk I J)) ∧ ((okF I f ∧ isB (nF I f) b) ∧ (if (b2i (shad (nF I f) (VF I f) (b).toNatClampNeg)) = (0 : Int32) then ((isCF c f ∧ mj_isk (mk I J)) ∧ ((nF I f ≤ 8 ∧ isB (nF I f) b) ∧ (if (stat (I (c + 1) 6) (VF I f) (b).toNatClampNeg) = (1 : Int32) then (if (stat (I (c + 1) 6) (VF I f) (b).toNatClampNeg) = (2 : Int32) then (Φ (some (.int ((((wcol (lv7 (I (c + 1))) (I (f + 1) (b).toNatClampNeg)) + (I (f + 3) (b).toNatClampNeg)) + (-30 : Int32)) - (100 : Int32)))) (mk I J)) else (Φ (some (.int (((wcol (lv7 (I (c + 1))) (I (f + 1) (b).toNatClampNeg)) + (I (f + 3) (b).toNatClampNeg)) + (-30 : Int32)))) (mk I J))) else (if (stat (I (c + 1) 6) (VF I f) (b).toNatClampNeg) = (2 : Int32) then (Φ (some (.int (((wcol (lv7 (I (c + 1))) (I (f + 1) (b).toNatClampNeg)) + (I (f + 3) (b).toNatClampNeg)) - (100 : Int32)))) (mk I J)) else (Φ (some (.int ((wcol (lv7 (I (c + 1))) (I (f + 1) (b).toNatClampNeg)) + (I (f + 3) (b).toNatClampNeg)))) (mk I J)))))) else ((isCF c f ∧ mj_isk (mk I J)) ∧ ((nF I f ≤ 8 ∧ isB (nF I f) b) ∧ (if (stat (I (c + 1) 6) (VF I f) (b).toNatClampNeg) = (1 : Int32) then (if (stat (I (c + 1) 6) (VF I f) (b).toNatClampNeg) = (2 : Int32) then (Φ (some (.int (((((wcol (lv7 (I (c + 1))) (I (f + 1) (b).toNatClampNeg)) + (I (f + 3) (b).toNatClampNeg)) + (-5 : Int32)) + (-30 : Int32)) - (100 : Int32)))) (mk I J)) else (Φ (some (.int ((((wcol (lv7 (I (c + 1))) (I (f + 1) (b).toNatClampNeg)) + (I (f + 3) (b).toNatClampNeg)) + (-5 : Int32)) + (-30 : Int32)))) (mk I J))) else (if (stat (I (c + 1) 6) (VF I f) (b).toNatClampNeg) = (2 : Int32) then (Φ (some (.int ((((wcol (lv7 (I (c + 1))) (I (f + 1) (b).toNatClampNeg)) + (I (f + 3) (b).toNatClampNeg)) + (-5 : Int32)) - (100 : Int32)))) (mk I J)) else (Φ (some (.int (((wcol (lv7 (I (c + 1))) (I (f + 1) (b).toNatClampNeg)) + (I (f + 3) (b).toNatClampNeg)) + (-5 : Int32)))) (mk I J))))))))))))))))) :
    mj_Met Ω l false mX1_scoreOf d 0 0 [.ref c, .ref f, .int b] (mk I J) Φ := by
  rcases hf with ⟨rfl, rfl⟩ | ⟨rfl, rfl⟩ | ⟨rfl, rfl⟩ | ⟨rfl, rfl⟩ <;> exact mj_entry (by decide) rfl (fun h => (by cases h)) (Nat.le_of_ble_eq_true rfl) (mj_blk (μ := mX1_scoreOf) (P := pX1_scoreOf) (cut := cutX1_scoreOf) (cs := csX1_scoreOf) dX1_scoreOf csX1_scoreOf_ok hd 48 0 _ h)
def tX1_scoreOf : mj_PT := fun as M Φ => match as with
  | [.ref this, .ref f, .int b] => (isCF this f ∧ mj_isk M) ∧ (okF M.2.2.1 f ∧ isB (nF M.2.2.1 f) b ∧ lineOk (lv7 (M.2.2.1 (this + 1)))) ∧ Φ (some (.int (score (nF M.2.2.1 f) (lv7 (M.2.2.1 (this + 1))) (M.2.2.1 (this + 1) 6) (VF M.2.2.1 f) (b).toNatClampNeg))) M
  | _ => False
theorem mnX1_scoreOf {Ω : mj_Om} {l : Launch} {d : Nat} {Φ : Option Value → mj_M → Prop} (hd : 3 ≤ d) (c f : Nat) (hf : isCF c f) (b : Int32) (I : Nat → Nat → Int32) (J : Nat → Nat → Int64) (hp : okF I f ∧ isB (nF I f) b ∧ lineOk (lv7 (I (c + 1)))) (h : Φ (some (.int (score (nF I f) (lv7 (I (c + 1))) (I (c + 1) 6) (VF I f) (b).toNatClampNeg))) (mk I J)) : mj_Met Ω l false mX1_scoreOf d 0 0 [.ref c, .ref f, .int b] (mk I J) Φ := by
  refine inX1_scoreOf hd c f hf b I J ?_
  obtain ⟨hp, ⟨hb, hbn⟩, hl⟩ := hp
  have hn := hp.2
  have h' : ∀ r, r = score (nF I f) (lv7 (I (c + 1))) (I (c + 1) 6) (VF I f) b.toNatClampNeg → Φ (some (.int r)) (mk I J) := fun r hr => hr ▸ h
  clear h
  have hB : isB (nF I f) b := ⟨hb, hbn⟩
  generalize hk : b.toNatClampNeg = k at *
  have e0 := VF_0 (I := I) (f := f) hbn
  have e1 := VF_1 (I := I) (f := f) hbn
  have e2 := VF_2 (I := I) (f := f) hbn
  have e7 := VF_7 (I := I) (f := f) hbn
  have hin : mj_inB b 8 = true := by rw [hb, jn_in (by omega)]; simp; omega
  
  simp only [hin, gd_true, b2i_e0]
  simp only [score, e0, e1, e2] at h'
  refine ⟨⟨isCF_c hf, mj_isk_mk I J⟩, hl, ?_⟩
  split
  all_goals
    refine ⟨⟨isCF_f hf, mj_isk_mk I J⟩, ⟨hp, hB⟩, ?_⟩
    split
    all_goals
      refine ⟨⟨hf, mj_isk_mk I J⟩, ⟨hn, hB⟩, ?_⟩
      repeat' split
      all_goals exact h' _ (by grind [b2i_1, b2i_0])
theorem sdX1_scoreOf : mj_Sd mX1_scoreOf 3 tX1_scoreOf := by
  intro Ω l d hd as M Φ h
  unfold tX1_scoreOf at h
  split at h
  · rename_i c f b
    obtain ⟨⟨hf, hM⟩, hp, h⟩ := h
    rw [mj_isk_of hM]
    exact mnX1_scoreOf hd c f hf b _ _ hp (by
      rw [mj_isk_of hM] at h
      exact h)
  · exact h.elim
