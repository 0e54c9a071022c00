/-! ===== tides, heap, hole, which (by program, wip/whole/p58.py) ===== -/
theorem jn_div {a t : Nat} (ha : a < 2147483648) (ht : t < 2147483648) : nI a / nI t = nI (a / t) := by
  have hl := Nat.div_le_self a t
  apply Int32.toInt_inj.mp
  rw [Int32.toInt_div, jn_toInt ha, jn_toInt ht, jn_toInt (Nat.lt_of_le_of_lt hl ha)]
  have e : (a : Int).tdiv (t : Int) = ((a / t : Nat) : Int) := rfl
  rw [e]
  generalize a / t = q at hl ⊢
  exact Int.bmod_eq_of_le (by omega) (by omega)
theorem jn_rem {g t : Nat} (hg : g < 2147483648) (ht : t < 2147483648) : nI g - nI g / nI t * nI t = nI (g % t) := by
  rw [jn_div hg ht, jn_mul, jn_sub (Nat.div_mul_le_self g t)]
  have := Nat.mod_add_div g t
  rw [Nat.mul_comm] at this
  congr 1
  omega
theorem pos_n {n : Nat} (hn : n ≤ 8) : ((0 : Int32) < nI n) = (0 < n) := jn_lt (a := 0) (by omega) (by omega)
theorem zero_n {n : Nat} (hn : n < 2147483648) : (nI n = (0 : Int32)) = (n = 0) := jn_eq (b := 0) hn (by omega)
theorem gd_nz {x : Int32} {K : Prop} (z : ¬ x = 0) : mj_gd (!decide (x = 0)) K = K := by simp [z, mj_gd]
noncomputable def tideR (n : Nat) (C : Nat → Int32) (s : Int32) : Int32 := cif (0 < n) (if C 3 = 0 then 0 else C 5 / C 3 - s / C 3) (-1)
def thC (C : Nat → Int32) (F : Vw) (t : Int32) : Nat → Int32
  | 0 => 0
  | k + 1 => if F 0 k * 3 / C 0 = t then thC C F t k + 1 else thC C F t k
noncomputable def heapR (n : Nat) (C : Nat → Int32) (F : Vw) (t : Int32) : Int32 := cif (0 < n ∧ ¬ t < 0 ∧ ¬ 2 < t) (thC C F t n) (-1)
noncomputable def holG (n : Nat) (F : Vw) (y : Int32) : Nat → Int32 → Int32
  | 0, a => a
  | c + 1, a => cif (held n F (nI c) y) a (holG n F y c (a + 1))
noncomputable def holeR (n : Nat) (F : Vw) (b : Int32) : Int32 := cif (okBN n b) (holG n F (F 1 b.toNatClampNeg) (F 0 b.toNatClampNeg).toNatClampNeg 0) (-1)
noncomputable def whN (p : Nat → Prop) : Nat → Int32
  | 0 => 0
  | k + 1 => cif (p k) (whN p k ||| (1 <<< (nI k &&& 31))) (whN p k)
def whP (n : Nat) (C : Nat → Int32) (F : Vw) (w : Int32) (k : Nat) : Prop := (w = 0 ∧ ¬ shad n F k) ∨ (w = 1 ∧ F 1 k < 0) ∨ (¬ w = 0 ∧ ¬ w = 1 ∧ stat (C 6) F k = 2)
noncomputable def whichR (n : Nat) (C : Nat → Int32) (F : Vw) (w : Int32) : Int32 := cif (0 < n ∧ ¬ w < 0 ∧ ¬ 2 < w) (whN (whP n C F w) n) (-1)
theorem l0_nz {C : Nat → Int32} (h : lineOk C) : ¬ C 0 < 1 ∧ ¬ C 0 = 0 := by
  have h0 := h.1
  refine ⟨fun w => ?_, fun w => ?_⟩
  · rw [Int32.lt_iff_toInt_lt, i_1] at w; omega
  · rw [w, i_0] at h0; omega
def csX11_boatsIn : List (Nat × Nat × Nat × mj_PT) := [(271, 0, 2, mj_rcv 1 tX1_thirdOf)]
theorem csX11_boatsIn_ok : mj_Cs mX11_boatsIn 2 csX11_boatsIn := (mj_CsV (D' := 1) (ci := 1) (q := (RX1, TX1, 1)) sdX1_thirdOf (Nat.le_of_ble_eq_true rfl) fX1_thirdOf rfl rfl iX1_thirdOf vX1_thirdOf (by decide +kernel) l11_271 mj_Cs0)
def cutX11_boatsIn : List (Nat × List Bool) := [(4, [true, true, true, true])]
set_option maxRecDepth 100000 in
set_option maxHeartbeats 4000000 in
theorem inX11_boatsIn {Ω : mj_Om} {l : Launch} {d : Nat} {Φ : Option Value → mj_M → Prop} (hd : 2 ≤ d) (t : Int32) (I : Nat → Nat → Int32) (J : Nat → Nat → Int64)
    (h : ((mj_G Ω l false mX11_boatsIn d 0 0 Φ 0 0 4 ([some (.ref 0), some (.int t), some (.int (0 : Int32)), some (.int (0 : Int32))], [], (mk I J))))) :
    mj_Met Ω l false mX11_boatsIn d 0 0 [.ref 0, .int t] (mk I J) Φ := mj_entry (by decide) rfl (fun h => (by cases h)) (Nat.le_of_ble_eq_true rfl) (mj_blk (μ := mX11_boatsIn) (P := pX11_boatsIn) (cut := cutX11_boatsIn) (cs := csX11_boatsIn) dX11_boatsIn csX11_boatsIn_ok hd 25 0 _ h)
set_option maxRecDepth 100000 in
set_option maxHeartbeats 4000000 in
theorem bX11_boatsIn_4 {Ω : mj_Om} {l : Launch} {d : Nat} {Φ : Option Value → mj_M → Prop} (hd : 2 ≤ d) (x1 : Int32) (x2 : Int32) (x3 : Int32) (I : Nat → Nat → Int32) (J : Nat → Nat → Int64)
    (h : ((if x3 < (I 39 8) then (mj_gd (mj_inB x3 8) (if (I 27 0) < (1 : Int32) then (if (0 : Int32) = x1 then (mj_G Ω l false mX11_boatsIn d 0 0 Φ 0 0 4 ([some (.ref 0), some (.int x1), some (.int (x2 + (1 : Int32))), some (.int (x3 + (1 : Int32)))], [], (mk I J))) else (mj_G Ω l false mX11_boatsIn d 0 0 Φ 0 0 4 ([some (.ref 0), some (.int x1), some (.int x2), some (.int (x3 + (1 : Int32)))], [], (mk I J)))) else (mj_gd (!decide ((I 27 0) = 0)) (if (((I 40 (x3).toNatClampNeg) * (3 : Int32)) / (I 27 0)) = x1 then (mj_G Ω l false mX11_boatsIn d 0 0 Φ 0 0 4 ([some (.ref 0), some (.int x1), some (.int (x2 + (1 : Int32))), some (.int (x3 + (1 : Int32)))], [], (mk I J))) else (mj_G Ω l false mX11_boatsIn d 0 0 Φ 0 0 4 ([some (.ref 0), some (.int x1), some (.int x2), some (.int (x3 + (1 : Int32)))], [], (mk I J))))))) else (Φ (some (.int x2)) (mk I J))))) :
    mj_G Ω l false mX11_boatsIn d 0 0 Φ 0 0 4 ([some (.ref 0), some (.int x1), some (.int x2), some (.int x3)], [], mk I J) := mj_blk (μ := mX11_boatsIn) (P := pX11_boatsIn) (cut := cutX11_boatsIn) (cs := csX11_boatsIn) dX11_boatsIn csX11_boatsIn_ok hd 25 4 _ h
def tX11_boatsIn : mj_PT := fun as M Φ => match as with
  | [.ref this, .int t] => ((this = 0 ∧ mj_isk M) ∧ ((okF M.2.2.1 39 ∧ lineOk (lv7 (M.2.2.1 27))) ∧ Φ (some (.int (thC (lv7 (M.2.2.1 27)) (VF M.2.2.1 39) t (nF M.2.2.1 39)))) M))
  | _ => False
set_option maxHeartbeats 4000000 in
theorem mnX11_boatsIn {Ω : mj_Om} {l : Launch} {d : Nat} {Φ : Option Value → mj_M → Prop} (hd : 2 ≤ d) (t : Int32) (I : Nat → Nat → Int32) (J : Nat → Nat → Int64) (hp : okF I 39 ∧ lineOk (lv7 (I 27))) (h : Φ (some (.int (thC (lv7 (I 27)) (VF I 39) t (nF I 39)))) (mk I J)) : mj_Met Ω l false mX11_boatsIn d 0 0 [.ref 0, .int t] (mk I J) Φ := by
  refine inX11_boatsIn hd t I J ?_
  obtain ⟨⟨hc, hn⟩, hl⟩ := hp
  obtain ⟨l1, l2⟩ := l0_nz hl
  have e0 : I 27 0 = lv7 (I 27) 0 := (lv7_at (by decide)).symm
  refine lp_inv (σ := Int32) (n := nF I 39) (G := fun i x => mj_G Ω l false mX11_boatsIn d 0 0 Φ 0 0 4 ([some (.ref 0), some (.int t), some (.int x), some (.int (nI i))], [], mk I J)) (fun i x => x = thC (lv7 (I 27)) (VF I 39) t i) (fun i x hi hI hk => ?_) (fun x hI => ?_) (nF I 39) 0 0 (by omega) rfl
  · refine bX11_boatsIn_4 hd t x (nI i) I J ?_
    rw [hc, if_pos (show nI i < nI (nF I 39) by rw [jn_lt (by omega) (by omega)]; exact hi)]
    simp (disch := omega) only [jn_in, jn_cl, gd_dec, jn_succ]
    rw [e0, if_neg l1, gd_nz l2, ← VF_0 (I := I) (f := 39) (b := i) hi]
    split
    · rename_i z; exact hk _ (by rw [hI, thC, if_pos z])
    · rename_i z; exact hk _ (by rw [hI, thC, if_neg z])
  · refine bX11_boatsIn_4 hd t x (nI (nF I 39)) I J ?_
    rw [hc, if_neg Int32.lt_irrefl, hI]
    exact h
theorem sdX11_boatsIn : mj_Sd mX11_boatsIn 2 tX11_boatsIn := by
  intro Ω l d hd as M Φ h
  unfold tX11_boatsIn at h
  split at h
  · rename_i z_this t
    obtain ⟨⟨rfl, hM⟩, hp, h⟩ := h
    rw [mj_isk_of hM]
    exact mnX11_boatsIn hd t _ _ hp (by
      rw [mj_isk_of hM] at h
      exact h)
  · exact h.elim
def csX11_isAmong : List (Nat × Nat × Nat × mj_PT) := [(191, 0, 3, mj_rcv 1 tX1_statusOf), (284, 0, 2, mj_rcv 3 tX3_isShadowed)]
theorem csX11_isAmong_ok : mj_Cs mX11_isAmong 3 csX11_isAmong := (mj_CsV (D' := 1) (ci := 1) (q := (RX1, TX1, 1)) sdX1_statusOf (Nat.le_of_ble_eq_true rfl) fX1_statusOf rfl rfl iX1_statusOf vX1_statusOf (by decide +kernel) l11_191 (mj_CsV (D' := 2) (ci := 3) (q := (RX3, TX3, 10)) sdX3_isShadowed (Nat.le_of_ble_eq_true rfl) fX3_isShadowed rfl rfl iX3_isShadowed vX3_isShadowed (by decide +kernel) l11_284 mj_Cs0))
def cutX11_isAmong : List (Nat × List Bool) := []
set_option maxRecDepth 100000 in
set_option maxHeartbeats 4000000 in
theorem inX11_isAmong {Ω : mj_Om} {l : Launch} {d : Nat} {Φ : Option Value → mj_M → Prop} (hd : 3 ≤ d) (b_ : Int32) (w : Int32) (I : Nat → Nat → Int32) (J : Nat → Nat → Int64)
    (h : ((if w = (0 : Int32) then ((isF3 39 ∧ mj_isk (mk I J)) ∧ ((okF I 39 ∧ isB (nF I 39) b_) ∧ (if (b2i (shad (nF I 39) (VF I 39) (b_).toNatClampNeg)) = (0 : Int32) then (Φ (some (.int (1 : Int32))) (mk I J)) else (Φ (some (.int (0 : Int32))) (mk I J))))) else (if w = (1 : Int32) then (mj_gd (mj_inB b_ 8) (if (I 41 (b_).toNatClampNeg) < (0 : Int32) then (Φ (some (.int (1 : Int32))) (mk I J)) else (Φ (some (.int (0 : Int32))) (mk I J)))) else ((isCF 26 39 ∧ mj_isk (mk I J)) ∧ ((nF I 39 ≤ 8 ∧ isB (nF I 39) b_) ∧ (if (stat (I (26 + 1) 6) (VF I 39) (b_).toNatClampNeg) = (2 : Int32) then (Φ (some (.int (1 : Int32))) (mk I J)) else (Φ (some (.int (0 : Int32))) (mk I J))))))))) :
    mj_Met Ω l false mX11_isAmong d 0 0 [.ref 0, .int b_, .int w] (mk I J) Φ := mj_entry (by decide) rfl (fun h => (by cases h)) (Nat.le_of_ble_eq_true rfl) (mj_blk (μ := mX11_isAmong) (P := pX11_isAmong) (cut := cutX11_isAmong) (cs := csX11_isAmong) dX11_isAmong csX11_isAmong_ok hd 34 0 _ h)
def tX11_isAmong : mj_PT := fun as M Φ => match as with
  | [.ref this, .int b_, .int w] => ((this = 0 ∧ mj_isk M) ∧ (∃ b : Nat, b_ = nI b ∧ ((okF M.2.2.1 39 ∧ b < nF M.2.2.1 39) ∧ Φ (some (.int (b2i (whP (nF M.2.2.1 39) (lv7 (M.2.2.1 27)) (VF M.2.2.1 39) w b)))) M)))
  | _ => False
set_option maxHeartbeats 4000000 in
theorem mnX11_isAmong {Ω : mj_Om} {l : Launch} {d : Nat} {Φ : Option Value → mj_M → Prop} (hd : 3 ≤ d) (b : Nat) (w : Int32) (I : Nat → Nat → Int32) (J : Nat → Nat → Int64) (hp : okF I 39 ∧ b < nF I 39) (h : Φ (some (.int (b2i (whP (nF I 39) (lv7 (I 27)) (VF I 39) w b)))) (mk I J)) : mj_Met Ω l false mX11_isAmong d 0 0 [.ref 0, .int (nI b), .int w] (mk I J) Φ := by
  refine inX11_isAmong hd (nI b) w I J ?_
  obtain ⟨⟨hc, hn⟩, hb⟩ := hp
  have e6 : I (26 + 1) 6 = lv7 (I 27) 6 := (lv7_at (by decide)).symm
  have h1 : whP (nF I 39) (lv7 (I 27)) (VF I 39) w b → Φ (some (.int 1)) (mk I J) := fun q => by rw [b2i_1 q] at h; exact h
  have h0 : ¬ whP (nF I 39) (lv7 (I 27)) (VF I 39) w b → Φ (some (.int 0)) (mk I J) := fun q => by rw [b2i_0 q] at h; exact h
  simp (disch := omega) only [jn_in, jn_cl, gd_dec]
  by_cases w0 : w = 0
  · rw [if_pos w0]
    refine ⟨⟨by unfold isF3; omega, mj_isk_mk _ _⟩, ⟨⟨hc, hn⟩, isB_nI hb hn⟩, ?_⟩
    split
    · rename_i z; rw [b2i_e0] at z; exact h1 (Or.inl ⟨w0, z⟩)
    · rename_i z; rw [b2i_e0] at z
      refine h0 (fun q => z ?_)
      rcases q with q | q | q
      · exact q.2
      · rw [w0] at q; exact absurd q.1 (by decide)
      · exact absurd w0 q.1
  rw [if_neg w0]
  by_cases w1 : w = 1
  · rw [if_pos w1, ← VF_1 (I := I) (f := 39) (b := b) hb]
    split
    · rename_i z; exact h1 (Or.inr (Or.inl ⟨w1, z⟩))
    · rename_i z
      refine h0 (fun q => z ?_)
      rcases q with q | q | q
      · exact absurd q.1 w0
      · exact q.2
      · exact absurd w1 q.2.1
  rw [if_neg w1, e6]
  refine ⟨⟨by unfold isCF; omega, mj_isk_mk _ _⟩, ⟨hn, isB_nI hb hn⟩, ?_⟩
  split
  · rename_i z; exact h1 (Or.inr (Or.inr ⟨w0, w1, z⟩))
  · rename_i z
    refine h0 (fun q => z ?_)
    rcases q with q | q | q
    · exact absurd q.1 w0
    · exact absurd q.1 w1
    · exact q.2.2
theorem sdX11_isAmong : mj_Sd mX11_isAmong 3 tX11_isAmong := by
  intro Ω l d hd as M Φ h
  unfold tX11_isAmong at h
  split at h
  · rename_i z_this b_ w
    obtain ⟨⟨rfl, hM⟩, b, rfl, hp, h⟩ := h
    rw [mj_isk_of hM]
    exact mnX11_isAmong hd b w _ _ hp (by
      rw [mj_isk_of hM] at h
      exact h)
  · exact h.elim
def csX11_heap : List (Nat × Nat × Nat × mj_PT) := [(204, 0, 1, mj_rcv 11 tX11_hasWater), (268, 0, 2, mj_rcv 11 tX11_boatsIn)]
theorem csX11_heap_ok : mj_Cs mX11_heap 3 csX11_heap := (mj_CsV (D' := 1) (ci := 11) (q := (RX11, TX11, 18)) sdX11_hasWater (Nat.le_of_ble_eq_true rfl) fX11_hasWater rfl rfl iX11_hasWater vX11_hasWater (by decide +kernel) l11_204 (mj_CsV (D' := 2) (ci := 11) (q := (RX11, TX11, 18)) sdX11_boatsIn (Nat.le_of_ble_eq_true rfl) fX11_boatsIn rfl rfl iX11_boatsIn vX11_boatsIn (by decide +kernel) l11_268 mj_Cs0))
def cutX11_heap : List (Nat × List Bool) := []
set_option maxRecDepth 100000 in
set_option maxHeartbeats 4000000 in
theorem inX11_heap {Ω : mj_Om} {l : Launch} {d : Nat} {Φ : Option Value → mj_M → Prop} (hd : 3 ≤ d) (t : Int32) (I : Nat → Nat → Int32) (J : Nat → Nat → Int64)
    (h : ((if (0 : Int32) < (I 39 8) then (if t < (0 : Int32) then (Φ (some (.int (-1 : Int32))) (mk I J)) else (if (2 : Int32) < t then (Φ (some (.int (-1 : Int32))) (mk I J)) else ((0 = 0 ∧ mj_isk (mk I J)) ∧ ((okF I 39 ∧ lineOk (lv7 (I 27))) ∧ (Φ (some (.int (thC (lv7 (I 27)) (VF I 39) t (nF I 39)))) (mk I J)))))) else (Φ (some (.int (-1 : Int32))) (mk I J))))) :
    mj_Met Ω l false mX11_heap d 0 0 [.ref 0, .int t] (mk I J) Φ := mj_entry (by decide) rfl (fun h => (by cases h)) (Nat.le_of_ble_eq_true rfl) (mj_blk (μ := mX11_heap) (P := pX11_heap) (cut := cutX11_heap) (cs := csX11_heap) dX11_heap csX11_heap_ok hd 15 0 _ h)
def tX11_heap : mj_PT := fun as M Φ => match as with
  | [.ref this, .int t] => ((this = 0 ∧ mj_isk M) ∧ (∃ m : Nat, (∃ R : RF, ((qC M.2.2.1 m R) ∧ (∀ I1 : Nat → Nat → Int32, (fr Scr M.2.2.1 I1) → Φ (some (.int (heapR (nF M.2.2.1 39) (lv7 (M.2.2.1 27)) (VF M.2.2.1 39) t))) (M.1, M.2.1, I1, M.2.2.2))))))
  | _ => False
set_option maxHeartbeats 4000000 in
theorem mnX11_heap {Ω : mj_Om} {l : Launch} {d : Nat} {Φ : Option Value → mj_M → Prop} (hd : 3 ≤ d) (t : Int32) (m : Nat) (R : RF) (I : Nat → Nat → Int32) (J : Nat → Nat → Int64) (hp : qC I m R) (h : ∀ I1 : Nat → Nat → Int32, (fr Scr I I1) → Φ (some (.int (heapR (nF I 39) (lv7 (I 27)) (VF I 39) t))) (mk I1 J)) : mj_Met Ω l false mX11_heap d 0 0 [.ref 0, .int t] (mk I J) Φ := by
  refine inX11_heap hd t I J ?_
  obtain ⟨⟨hc, hn⟩, hR, hFF⟩ := id hp
  have hH : ¬ (0 < nF I 39 ∧ ¬ t < 0 ∧ ¬ 2 < t) → Φ (some (.int (-1))) (mk I J) := fun q => by
    have := h I fr_rf
    unfold heapR at this
    rwa [cif_f q] at this
  rw [hc]
  by_cases q : (0 : Int32) < nI (nF I 39)
  case neg => rw [if_neg q]; exact hH (fun w' => q (by rw [pos_n hn]; exact w'.1))
  rw [if_pos q]
  rw [pos_n hn] at q
  by_cases q1 : t < 0
  · rw [if_pos q1]; exact hH (fun w' => w'.2.1 q1)
  rw [if_neg q1]
  by_cases q2 : 2 < t
  · rw [if_pos q2]; exact hH (fun w' => w'.2.2 q2)
  rw [if_neg q2]
  have h := h I fr_rf
  unfold heapR at h
  rw [cif_t ⟨q, q1, q2⟩] at h
  have hF := hFF q
  exact ⟨⟨by trivial, mj_isk_mk _ _⟩, ⟨⟨hc, hn⟩, hF.1⟩, h⟩
theorem sdX11_heap : mj_Sd mX11_heap 3 tX11_heap := by
  intro Ω l d hd as M Φ h
  unfold tX11_heap at h
  split at h
  · rename_i z_this t
    obtain ⟨⟨rfl, hM⟩, m, R, hp, h⟩ := h
    rw [mj_isk_of hM]
    exact mnX11_heap hd t m R _ _ hp (by
      rw [mj_isk_of hM] at h
      exact h)
  · exact h.elim
def csX11_which : List (Nat × Nat × Nat × mj_PT) := [(204, 0, 1, mj_rcv 11 tX11_hasWater), (281, 0, 3, mj_rcv 11 tX11_isAmong)]
theorem csX11_which_ok : mj_Cs mX11_which 4 csX11_which := (mj_CsV (D' := 1) (ci := 11) (q := (RX11, TX11, 18)) sdX11_hasWater (Nat.le_of_ble_eq_true rfl) fX11_hasWater rfl rfl iX11_hasWater vX11_hasWater (by decide +kernel) l11_204 (mj_CsV (D' := 3) (ci := 11) (q := (RX11, TX11, 18)) sdX11_isAmong (Nat.le_of_ble_eq_true rfl) fX11_isAmong rfl rfl iX11_isAmong vX11_isAmong (by decide +kernel) l11_281 mj_Cs0))
def cutX11_which : List (Nat × List Bool) := [(22, [true, true, true, true])]
set_option maxRecDepth 100000 in
set_option maxHeartbeats 4000000 in
theorem inX11_which {Ω : mj_Om} {l : Launch} {d : Nat} {Φ : Option Value → mj_M → Prop} (hd : 4 ≤ d) (w : Int32) (I : Nat → Nat → Int32) (J : Nat → Nat → Int64)
    (h : ((if (0 : Int32) < (I 39 8) then (if w < (0 : Int32) then (Φ (some (.int (-1 : Int32))) (mk I J)) else (if (2 : Int32) < w then (Φ (some (.int (-1 : Int32))) (mk I J)) else (mj_G Ω l false mX11_which d 0 0 Φ 0 0 22 ([some (.ref 0), some (.int w), some (.int (0 : Int32)), some (.int (0 : Int32))], [], (mk I J))))) else (Φ (some (.int (-1 : Int32))) (mk I J))))) :
    mj_Met Ω l false mX11_which d 0 0 [.ref 0, .int w] (mk I J) Φ := mj_entry (by decide) rfl (fun h => (by cases h)) (Nat.le_of_ble_eq_true rfl) (mj_blk (μ := mX11_which) (P := pX11_which) (cut := cutX11_which) (cs := csX11_which) dX11_which csX11_which_ok hd 35 0 _ h)
set_option maxRecDepth 100000 in
set_option maxHeartbeats 4000000 in
theorem bX11_which_22 {Ω : mj_Om} {l : Launch} {d : Nat} {Φ : Option Value → mj_M → Prop} (hd : 4 ≤ d) (x1 : Int32) (x2 : Int32) (x3 : Int32) (I : Nat → Nat → Int32) (J : Nat → Nat → Int64)
    (h : ((if x3 < (I 39 8) then ((0 = 0 ∧ mj_isk (mk I J)) ∧ (∃ b874 : Nat, x3 = nI b874 ∧ ((okF I 39 ∧ b874 < nF I 39) ∧ (if (b2i (whP (nF I 39) (lv7 (I 27)) (VF I 39) x1 b874)) = (0 : Int32) then (mj_G Ω l false mX11_which d 0 0 Φ 0 0 22 ([some (.ref 0), some (.int x1), some (.int x2), some (.int (x3 + (1 : Int32)))], [], (mk I J))) else (mj_G Ω l false mX11_which d 0 0 Φ 0 0 22 ([some (.ref 0), some (.int x1), some (.int (x2 ||| ((1 : Int32) <<< (x3 &&& 31)))), some (.int (x3 + (1 : Int32)))], [], (mk I J))))))) else (Φ (some (.int x2)) (mk I J))))) :
    mj_G Ω l false mX11_which d 0 0 Φ 0 0 22 ([some (.ref 0), some (.int x1), some (.int x2), some (.int x3)], [], mk I J) := mj_blk (μ := mX11_which) (P := pX11_which) (cut := cutX11_which) (cs := csX11_which) dX11_which csX11_which_ok hd 35 22 _ h
def tX11_which : mj_PT := fun as M Φ => match as with
  | [.ref this, .int w] => ((this = 0 ∧ mj_isk M) ∧ (∃ m : Nat, (∃ R : RF, ((qC M.2.2.1 m R) ∧ (∀ I1 : Nat → Nat → Int32, (fr Scr M.2.2.1 I1) → Φ (some (.int (whichR (nF M.2.2.1 39) (lv7 (M.2.2.1 27)) (VF M.2.2.1 39) w))) (M.1, M.2.1, I1, M.2.2.2))))))
  | _ => False
set_option maxHeartbeats 4000000 in
theorem mnX11_which {Ω : mj_Om} {l : Launch} {d : Nat} {Φ : Option Value → mj_M → Prop} (hd : 4 ≤ d) (w : Int32) (m : Nat) (R : RF) (I : Nat → Nat → Int32) (J : Nat → Nat → Int64) (hp : qC I m R) (h : ∀ I1 : Nat → Nat → Int32, (fr Scr I I1) → Φ (some (.int (whichR (nF I 39) (lv7 (I 27)) (VF I 39) w))) (mk I1 J)) : mj_Met Ω l false mX11_which d 0 0 [.ref 0, .int w] (mk I J) Φ := by
  refine inX11_which hd w I J ?_
  obtain ⟨⟨hc, hn⟩, hR, hFF⟩ := id hp
  have hH : ¬ (0 < nF I 39 ∧ ¬ w < 0 ∧ ¬ 2 < w) → Φ (some (.int (-1))) (mk I J) := fun q => by
    have := h I fr_rf
    unfold whichR at this
    rwa [cif_f q] at this
  rw [hc]
  by_cases q : (0 : Int32) < nI (nF I 39)
  case neg => rw [if_neg q]; exact hH (fun w' => q (by rw [pos_n hn]; exact w'.1))
  rw [if_pos q]
  rw [pos_n hn] at q
  by_cases q1 : w < 0
  · rw [if_pos q1]; exact hH (fun w' => w'.2.1 q1)
  rw [if_neg q1]
  by_cases q2 : 2 < w
  · rw [if_pos q2]; exact hH (fun w' => w'.2.2 q2)
  rw [if_neg q2]
  have h := h I fr_rf
  unfold whichR at h
  rw [cif_t ⟨q, q1, q2⟩] at h
  have hF := hFF q
  refine lp_inv (σ := Int32) (n := nF I 39) (G := fun i x => mj_G Ω l false mX11_which d 0 0 Φ 0 0 22 ([some (.ref 0), some (.int w), some (.int x), some (.int (nI i))], [], mk I J)) (fun i x => x = whN (whP (nF I 39) (lv7 (I 27)) (VF I 39) w) i) (fun i x hi hI hk => ?_) (fun x hI => ?_) (nF I 39) 0 0 (by omega) rfl
  · refine bX11_which_22 hd w x (nI i) I J ?_
    rw [hc, if_pos (show nI i < nI (nF I 39) by rw [jn_lt (by omega) (by omega)]; exact hi)]
    refine ⟨⟨by trivial, mj_isk_mk _ _⟩, i, rfl, ⟨⟨hc, hn⟩, hi⟩, ?_⟩
    rw [jn_succ]
    split
    · rename_i z; rw [b2i_e0] at z; exact hk _ (by rw [hI, whN, cif_f z])
    · rename_i z; rw [b2i_e0] at z; exact hk _ (by rw [hI, whN, cif_t (Classical.not_not.mp z)])
  · refine bX11_which_22 hd w x (nI (nF I 39)) I J ?_
    rw [hc, if_neg Int32.lt_irrefl, hI]
    exact h
theorem sdX11_which : mj_Sd mX11_which 4 tX11_which := by
  intro Ω l d hd as M Φ h
  unfold tX11_which at h
  split at h
  · rename_i z_this w
    obtain ⟨⟨rfl, hM⟩, m, R, hp, h⟩ := h
    rw [mj_isk_of hM]
    exact mnX11_which hd w m R _ _ hp (by
      rw [mj_isk_of hM] at h
      exact h)
  · exact h.elim
def csX11_hole : List (Nat × Nat × Nat × mj_PT) := [(160, 0, 2, mj_rcv 11 tX11_isBoat), (218, 0, 3, mj_rcv 3 tX3_isHeld)]
theorem csX11_hole_ok : mj_Cs mX11_hole 2 csX11_hole := (mj_CsV (D' := 1) (ci := 11) (q := (RX11, TX11, 18)) sdX11_isBoat (Nat.le_of_ble_eq_true rfl) fX11_isBoat rfl rfl iX11_isBoat vX11_isBoat (by decide +kernel) l11_160 (mj_CsV (D' := 1) (ci := 3) (q := (RX3, TX3, 10)) sdX3_isHeld (Nat.le_of_ble_eq_true rfl) fX3_isHeld rfl rfl iX3_isHeld vX3_isHeld (by decide +kernel) l11_218 mj_Cs0))
def cutX11_hole : List (Nat × List Bool) := [(24, [true, true, true, true])]
set_option maxRecDepth 100000 in
set_option maxHeartbeats 4000000 in
theorem inX11_hole {Ω : mj_Om} {l : Launch} {d : Nat} {Φ : Option Value → mj_M → Prop} (hd : 2 ≤ d) (b : Int32) (I : Nat → Nat → Int32) (J : Nat → Nat → Int64)
    (h : ((if b < (0 : Int32) then (Φ (some (.int (-1 : Int32))) (mk I J)) else (if b < (I 39 8) then (mj_gd (mj_inB b 8) (mj_G Ω l false mX11_hole d 0 0 Φ 0 0 24 ([some (.ref 0), some (.int b), some (.int (0 : Int32)), some (.int ((I 40 (b).toNatClampNeg) - (1 : Int32)))], [], (mk I J)))) else (Φ (some (.int (-1 : Int32))) (mk I J)))))) :
    mj_Met Ω l false mX11_hole d 0 0 [.ref 0, .int b] (mk I J) Φ := mj_entry (by decide) rfl (fun h => (by cases h)) (Nat.le_of_ble_eq_true rfl) (mj_blk (μ := mX11_hole) (P := pX11_hole) (cut := cutX11_hole) (cs := csX11_hole) dX11_hole csX11_hole_ok hd 35 0 _ h)
set_option maxRecDepth 100000 in
set_option maxHeartbeats 4000000 in
theorem bX11_hole_24 {Ω : mj_Om} {l : Launch} {d : Nat} {Φ : Option Value → mj_M → Prop} (hd : 2 ≤ d) (x1 : Int32) (x2 : Int32) (x3 : Int32) (I : Nat → Nat → Int32) (J : Nat → Nat → Int64)
    (h : ((if x3 < (0 : Int32) then (Φ (some (.int x2)) (mk I J)) else (mj_gd (mj_inB x1 8) ((isF3 39 ∧ mj_isk (mk I J)) ∧ ((okF I 39) ∧ (if (b2i (held (nF I 39) (VF I 39) x3 (I 41 (x1).toNatClampNeg))) = (0 : Int32) then (mj_G Ω l false mX11_hole d 0 0 Φ 0 0 24 ([some (.ref 0), some (.int x1), some (.int (x2 + (1 : Int32))), some (.int (x3 + (-1 : Int32)))], [], (mk I J))) else (Φ (some (.int x2)) (mk I J))))))))) :
    mj_G Ω l false mX11_hole d 0 0 Φ 0 0 24 ([some (.ref 0), some (.int x1), some (.int x2), some (.int x3)], [], mk I J) := mj_blk (μ := mX11_hole) (P := pX11_hole) (cut := cutX11_hole) (cs := csX11_hole) dX11_hole csX11_hole_ok hd 35 24 _ h
def tX11_hole : mj_PT := fun as M Φ => match as with
  | [.ref this, .int b] => ((this = 0 ∧ mj_isk M) ∧ (∃ m : Nat, (∃ R : RF, ((qC M.2.2.1 m R) ∧ (∀ I1 : Nat → Nat → Int32, (fr Scr M.2.2.1 I1) → Φ (some (.int (holeR (nF M.2.2.1 39) (VF M.2.2.1 39) b))) (M.1, M.2.1, I1, M.2.2.2))))))
  | _ => False
set_option maxHeartbeats 4000000 in
theorem mnX11_hole {Ω : mj_Om} {l : Launch} {d : Nat} {Φ : Option Value → mj_M → Prop} (hd : 2 ≤ d) (b : Int32) (m : Nat) (R : RF) (I : Nat → Nat → Int32) (J : Nat → Nat → Int64) (hp : qC I m R) (h : ∀ I1 : Nat → Nat → Int32, (fr Scr I I1) → Φ (some (.int (holeR (nF I 39) (VF I 39) b))) (mk I1 J)) : mj_Met Ω l false mX11_hole d 0 0 [.ref 0, .int b] (mk I J) Φ := by
  refine inX11_hole hd b I J ?_
  obtain ⟨⟨hc, hn⟩, hR, hFF⟩ := id hp
  have hH : ¬ (okBN (nF I 39) b) → Φ (some (.int (-1))) (mk I J) := fun q => by
    have := h I fr_rf
    unfold holeR at this
    rwa [cif_f q] at this
  by_cases hb0 : b < 0
  · rw [if_pos hb0]; exact hH (fun w => absurd hb0 (Int32.not_lt.mpr w.1))
  rw [if_neg hb0, hc]
  by_cases hb1 : b < nI (nF I 39)
  case neg => rw [if_neg hb1]; exact hH (fun w => hb1 w.2)
  rw [if_pos hb1]
  obtain ⟨k, hk, rfl⟩ := okB_of hb0 hb1 hn
  have hF := hFF (by omega)
  have hok := okBN_n hk hn
  have h := h I fr_rf
  unfold holeR at h
  rw [cif_t hok, jn_cl (by omega)] at h
  have hcol := (hF.2.2 k hk).1
  have ec := jn_of (x := VF I 39 0 k) (by rw [Int32.le_iff_toInt_le, i_0]; exact hcol.1)
  have key : ∀ (c : Nat) (a x3 : Int32), c < 2147483648 → x3 = nI c - 1 → Φ (some (.int (holG (nF I 39) (VF I 39) (VF I 39 1 k) c a))) (mk I J) → mj_G Ω l false mX11_hole d 0 0 Φ 0 0 24 ([some (.ref 0), some (.int (nI k)), some (.int a), some (.int x3)], [], mk I J) := by
    intro c
    induction c with
    | zero =>
      intro a x3 _ hx h'
      refine bX11_hole_24 hd (nI k) a x3 I J ?_
      rw [hx, if_pos (by decide)]
      exact h'
    | succ c ih =>
      intro a x3 hc' hx h'
      have hx' : x3 = nI c := by rw [hx, show (1 : Int32) = nI 1 from rfl, jn_sub (by omega)]; rfl
      refine bX11_hole_24 hd (nI k) a x3 I J ?_
      rw [hx', if_neg (show ¬ nI c < 0 by rw [Int32.lt_iff_toInt_lt, jn_toInt (by omega), i_0]; omega)]
      simp (disch := omega) only [jn_in, jn_cl, gd_dec]
      rw [← VF_1 (I := I) (f := 39) (b := k) hk]
      refine ⟨⟨by unfold isF3; omega, mj_isk_mk _ _⟩, ⟨‹_›, hn⟩, ?_⟩
      rw [holG] at h'
      split
      · rename_i z; rw [b2i_e0] at z; rw [cif_f z] at h'
        exact ih (a + 1) _ (by omega) (Int32.sub_eq_add_neg _ _).symm h'
      · rename_i z; rw [b2i_e0] at z; rw [cif_t (Classical.not_not.mp z)] at h'; exact h'
  simp (disch := omega) only [jn_in, jn_cl, gd_dec]
  rw [← VF_0 (I := I) (f := 39) (b := k) hk]
  exact key _ 0 _ (cl_lt _) (congrArg (· - 1) ec) h
theorem sdX11_hole : mj_Sd mX11_hole 2 tX11_hole := by
  intro Ω l d hd as M Φ h
  unfold tX11_hole at h
  split at h
  · rename_i z_this b
    obtain ⟨⟨rfl, hM⟩, m, R, hp, h⟩ := h
    rw [mj_isk_of hM]
    exact mnX11_hole hd b m R _ _ hp (by
      rw [mj_isk_of hM] at h
      exact h)
  · exact h.elim
def csX11_tidesS : List (Nat × Nat × Nat × mj_PT) := [(204, 0, 1, mj_rcv 11 tX11_hasWater)]
theorem csX11_tidesS_ok : mj_Cs mX11_tides 2 csX11_tidesS := (mj_CsV (D' := 1) (ci := 11) (q := (RX11, TX11, 18)) sdX11_hasWater (Nat.le_of_ble_eq_true rfl) fX11_hasWater rfl rfl iX11_hasWater vX11_hasWater (by decide +kernel) l11_204 mj_Cs0)
def cutX11_tidesS : List (Nat × List Bool) := []
set_option maxRecDepth 100000 in
set_option maxHeartbeats 4000000 in
theorem inX11_tidesS {Ω : mj_Om} {l : Launch} {d : Nat} {Φ : Option Value → mj_M → Prop} (hd : 2 ≤ d) (I : Nat → Nat → Int32) (J : Nat → Nat → Int64)
    (h : ((if (0 : Int32) < (I 39 8) then (if (I 27 3) = (0 : Int32) then (Φ (some (.int (0 : Int32))) (mk I J)) else (mj_gd (!decide ((I 27 3) = 0)) (mj_gd (!decide ((I 27 3) = 0)) (Φ (some (.int (((I 27 5) / (I 27 3)) - ((I 39 9) / (I 27 3))))) (mk I J))))) else (Φ (some (.int (-1 : Int32))) (mk I J))))) :
    mj_Met Ω l false mX11_tides d 0 0 [.ref 0] (mk I J) Φ := mj_entry (by decide) rfl (fun h => (by cases h)) (Nat.le_of_ble_eq_true rfl) (mj_blk (μ := mX11_tides) (P := pX11_tides) (cut := cutX11_tidesS) (cs := csX11_tidesS) dX11_tides csX11_tidesS_ok hd 30 0 _ h)
def tX11_tidesS : mj_PT := fun as M Φ => match as with
  | [.ref this] => ((this = 0 ∧ mj_isk M) ∧ (∃ m : Nat, (∃ R : RF, ((qC M.2.2.1 m R) ∧ (∀ I1 : Nat → Nat → Int32, (fr Scr M.2.2.1 I1) → Φ (some (.int (tideR (nF M.2.2.1 39) (lv7 (M.2.2.1 27)) (M.2.2.1 39 9)))) (M.1, M.2.1, I1, M.2.2.2))))))
  | _ => False
set_option maxHeartbeats 4000000 in
theorem mnX11_tidesS {Ω : mj_Om} {l : Launch} {d : Nat} {Φ : Option Value → mj_M → Prop} (hd : 2 ≤ d) (m : Nat) (R : RF) (I : Nat → Nat → Int32) (J : Nat → Nat → Int64) (hp : qC I m R) (h : ∀ I1 : Nat → Nat → Int32, (fr Scr I I1) → Φ (some (.int (tideR (nF I 39) (lv7 (I 27)) (I 39 9)))) (mk I1 J)) : mj_Met Ω l false mX11_tides d 0 0 [.ref 0] (mk I J) Φ := by
  refine inX11_tidesS hd I J ?_
  obtain ⟨⟨hc, hn⟩, hR, hFF⟩ := id hp
  have h := h I fr_rf
  have e3 : I 27 3 = lv7 (I 27) 3 := (lv7_at (by decide)).symm
  have e5 : I 27 5 = lv7 (I 27) 5 := (lv7_at (by decide)).symm
  rw [hc, e3, e5]
  unfold tideR at h
  by_cases q : (0 : Int32) < nI (nF I 39)
  · rw [if_pos q]
    rw [pos_n hn] at q
    rw [cif_t q] at h
    by_cases z : lv7 (I 27) 3 = 0
    · rw [if_pos z] at h ⊢; exact h
    · rw [if_neg z] at h ⊢
      rw [gd_nz z, gd_nz z]
      exact h
  · rw [if_neg q]
    rw [pos_n hn] at q
    rw [cif_f q] at h; exact h
theorem sdX11_tidesS : mj_Sd mX11_tides 2 tX11_tidesS := by
  intro Ω l d hd as M Φ h
  unfold tX11_tidesS at h
  split at h
  · rename_i z_this
    obtain ⟨⟨rfl, hM⟩, m, R, hp, h⟩ := h
    rw [mj_isk_of hM]
    exact mnX11_tidesS hd m R _ _ hp (by
      rw [mj_isk_of hM] at h
      exact h)
  · exact h.elim
theorem tide_s {a i t : Nat} (ht : 0 < t) : (a + (i + 1)) / t - a / t = if (a + 1 + i) % t = 0 then (a + i) / t - a / t + 1 else (a + i) / t - a / t := by
  have h1 : a / t ≤ (a + i) / t := Nat.div_le_div_right (by omega)
  have e : a + (i + 1) = (a + i) + 1 := by omega
  have e2 : a + 1 + i = (a + i) + 1 := by omega
  rw [e, e2, Nat.succ_div]
  by_cases z : ((a + i) + 1) % t = 0
  · rw [if_pos z, if_pos (Nat.dvd_of_mod_eq_zero z)]; omega
  · rw [if_neg z, if_neg (fun w => z (Nat.mod_eq_zero_of_dvd w))]; omega
def csX12_tides : List (Nat × Nat × Nat × mj_PT) := []
theorem csX12_tides_ok : mj_Cs mX12_tides 1 csX12_tides := mj_Cs0
def cutX12_tides : List (Nat × List Bool) := [(21, [true, true, true])]
set_option maxRecDepth 100000 in
set_option maxHeartbeats 4000000 in
theorem inX12_tides {Ω : mj_Om} {l : Launch} {d : Nat} {Φ : Option Value → mj_M → Prop} (hd : 1 ≤ d) (I : Nat → Nat → Int32) (J : Nat → Nat → Int64)
    (h : ((if (I 91 22) = (0 : Int32) then (Φ (some (.int (-1 : Int32))) (mk I J)) else (mj_G Ω l false mX12_tides d 0 0 Φ 0 0 21 ([some (.ref 91), some (.int (0 : Int32)), some (.int ((I 106 48) + (1 : Int32)))], [], (mk I J)))))) :
    mj_Met Ω l false mX12_tides d 0 0 [.ref 91] (mk I J) Φ := mj_entry (by decide) rfl (fun h => (by cases h)) (Nat.le_of_ble_eq_true rfl) (mj_blk (μ := mX12_tides) (P := pX12_tides) (cut := cutX12_tides) (cs := csX12_tides) dX12_tides csX12_tides_ok hd 43 0 _ h)
set_option maxRecDepth 100000 in
set_option maxHeartbeats 4000000 in
theorem bX12_tides_21 {Ω : mj_Om} {l : Launch} {d : Nat} {Φ : Option Value → mj_M → Prop} (hd : 1 ≤ d) (x1 : Int32) (x2 : Int32) (I : Nat → Nat → Int32) (J : Nat → Nat → Int64)
    (h : ((if (I 104 3) = (0 : Int32) then (Φ (some (.int x1)) (mk I J)) else (if (I 104 5) < x2 then (Φ (some (.int x1)) (mk I J)) else (mj_gd (!decide ((I 104 3) = 0)) (if (x2 - x2 / (I 104 3) * (I 104 3)) = (0 : Int32) then (mj_G Ω l false mX12_tides d 0 0 Φ 0 0 21 ([some (.ref 91), some (.int (x1 + (1 : Int32))), some (.int (x2 + (1 : Int32)))], [], (mk I J))) else (mj_G Ω l false mX12_tides d 0 0 Φ 0 0 21 ([some (.ref 91), some (.int (x1 + (0 : Int32))), some (.int (x2 + (1 : Int32)))], [], (mk I J))))))))) :
    mj_G Ω l false mX12_tides d 0 0 Φ 0 0 21 ([some (.ref 91), some (.int x1), some (.int x2)], [], mk I J) := mj_blk (μ := mX12_tides) (P := pX12_tides) (cut := cutX12_tides) (cs := csX12_tides) dX12_tides csX12_tides_ok hd 43 21 _ h
def tX12_tides : mj_PT := fun as M Φ => match as with
  | [.ref this] => ((this = 91 ∧ mj_isk M) ∧ (∃ m : Nat, (∃ R : RF, ((qM M.2.2.1 m R) ∧ (∀ I1 : Nat → Nat → Int32, (fr Scr M.2.2.1 I1) → Φ (some (.int (tideR (nM M.2.2.1) (lv7 (M.2.2.1 104)) (M.2.2.1 106 48)))) (M.1, M.2.1, I1, M.2.2.2))))))
  | _ => False
set_option maxHeartbeats 4000000 in
theorem mnX12_tides {Ω : mj_Om} {l : Launch} {d : Nat} {Φ : Option Value → mj_M → Prop} (hd : 1 ≤ d) (m : Nat) (R : RF) (I : Nat → Nat → Int32) (J : Nat → Nat → Int64) (hp : qM I m R) (h : ∀ I1 : Nat → Nat → Int32, (fr Scr I I1) → Φ (some (.int (tideR (nM I) (lv7 (I 104)) (I 106 48)))) (mk I1 J)) : mj_Met Ω l false mX12_tides d 0 0 [.ref 91] (mk I J) Φ := by
  refine inX12_tides hd I J ?_
  obtain ⟨⟨hc, hn⟩, hR, hFF, h25, h26⟩ := id hp
  have h := h I fr_rf
  have e3 : I 104 3 = lv7 (I 104) 3 := (lv7_at (by decide)).symm
  have e5 : I 104 5 = lv7 (I 104) 5 := (lv7_at (by decide)).symm
  rw [hc]
  unfold tideR at h
  by_cases q : nI (nM I) = 0
  · rw [if_pos q]
    rw [zero_n (by omega)] at q
    rw [cif_f (by omega)] at h; exact h
  rw [if_neg q]
  rw [zero_n (by omega)] at q
  rw [cif_t (by omega)] at h
  have hF := hFF (by omega)
  obtain ⟨l0, l1, l2, l3, l4, l5, l6⟩ := id hF.1
  have hs := hF.2.1
  by_cases z : lv7 (I 104) 3 = 0
  · rw [if_pos z] at h
    refine bX12_tides_21 hd 0 _ I J ?_
    rw [e3, if_pos z]; exact h
  rw [if_neg z] at h
  have n3 := jn_of (x := lv7 (I 104) 3) (by rw [Int32.le_iff_toInt_le, i_0]; omega)
  have n5 := jn_of (x := lv7 (I 104) 5) (by rw [Int32.le_iff_toInt_le, i_0]; omega)
  have ns := jn_of (x := I 106 48) (by rw [Int32.le_iff_toInt_le, i_0]; omega)
  have k3 : (lv7 (I 104) 3).toNatClampNeg = (lv7 (I 104) 3).toInt.toNat := rfl
  have k5 : (lv7 (I 104) 5).toNatClampNeg = (lv7 (I 104) 5).toInt.toNat := rfl
  have ks : (I 106 48).toNatClampNeg = (I 106 48).toInt.toNat := rfl
  generalize (lv7 (I 104) 3).toNatClampNeg = t at n3 k3
  generalize (lv7 (I 104) 5).toNatClampNeg = e at n5 k5
  generalize (I 106 48).toNatClampNeg = a at ns ks
  have ht : 0 < t := by
    rcases Nat.eq_zero_or_pos t with w | w
    · rw [w] at n3; exact absurd n3 z
    · exact w
  have dl := Nat.div_le_div_right (c := t) (show a ≤ e by omega)
  have dm := Nat.div_le_self e t
  rw [n5, n3, ns, jn_div (by omega) (by omega), jn_div (by omega) (by omega), jn_sub dl] at h
  rw [ns, jn_succ]
  have z' : ¬ nI t = 0 := by rw [← n3]; exact z
  refine lp_inv (σ := Int32) (n := e - a) (G := fun i x => mj_G Ω l false mX12_tides d 0 0 Φ 0 0 21 ([some (.ref 91), some (.int x), some (.int (nI (a + 1 + i)))], [], mk I J)) (fun i x => x = nI ((a + i) / t - a / t)) (fun i x hi hI hk => ?_) (fun x hI => ?_) (e - a) 0 0 (by omega) (by rw [Nat.add_zero, Nat.sub_self]; rfl)
  · refine bX12_tides_21 hd x (nI (a + 1 + i)) I J ?_
    rw [e3, e5, n3, n5, if_neg z', if_neg (show ¬ nI e < nI (a + 1 + i) by rw [jn_lt (by omega) (by omega)]; omega), gd_nz z', jn_rem (by omega) (by omega), jn_succ, Int32.add_zero]
    have ts := tide_s (a := a) (i := i) ht
    have ml := Nat.mod_lt (a + 1 + i) ht
    split
    · rename_i y
      rw [zero_n (by omega)] at y
      rw [if_pos y] at ts
      exact hk _ (by rw [ts, hI]; exact jn_succ _)
    · rename_i y
      rw [zero_n (by omega)] at y
      rw [if_neg y] at ts
      exact hk _ (by rw [ts, hI])
  · refine bX12_tides_21 hd x (nI (a + 1 + (e - a))) I J ?_
    rw [e3, e5, n3, n5, if_neg z', if_pos (show nI e < nI (a + 1 + (e - a)) by rw [jn_lt (by omega) (by omega)]; omega), hI, show a + (e - a) = e by omega]
    exact h
theorem sdX12_tides : mj_Sd mX12_tides 1 tX12_tides := by
  intro Ω l d hd as M Φ h
  unfold tX12_tides at h
  split at h
  · rename_i z_this
    obtain ⟨⟨rfl, hM⟩, m, R, hp, h⟩ := h
    rw [mj_isk_of hM]
    exact mnX12_tides hd m R _ _ hp (by
      rw [mj_isk_of hM] at h
      exact h)
  · exact h.elim
def csX12_heap : List (Nat × Nat × Nat × mj_PT) := [(214, 1, 3, tX12_in), (401, 0, 2, mj_rcv 12 tX12_thirdOf)]
theorem csX12_heap_ok : mj_Cs mX12_heap 3 csX12_heap := (mj_CsS (D' := 1) sdX12_in (Nat.le_of_ble_eq_true rfl) fX12_in sX12_in (by decide +kernel) l12_214 (mj_CsV (D' := 2) (ci := 12) (q := (RX12, TX12, 45)) sdX12_thirdOf (Nat.le_of_ble_eq_true rfl) fX12_thirdOf rfl rfl iX12_thirdOf vX12_thirdOf (by decide +kernel) l12_401 mj_Cs0))
def cutX12_heap : List (Nat × List Bool) := [(22, [true, true, true, true])]
set_option maxRecDepth 100000 in
set_option maxHeartbeats 4000000 in
theorem inX12_heap {Ω : mj_Om} {l : Launch} {d : Nat} {Φ : Option Value → mj_M → Prop} (hd : 3 ≤ d) (t : Int32) (I : Nat → Nat → Int32) (J : Nat → Nat → Int64)
    (h : ((if (I 91 22) = (0 : Int32) then (Φ (some (.int (-1 : Int32))) (mk I J)) else (if t < (0 : Int32) then (Φ (some (.int (-1 : Int32))) (mk I J)) else (if (2 : Int32) < t then (Φ (some (.int (-1 : Int32))) (mk I J)) else (mj_G Ω l false mX12_heap d 0 0 Φ 0 0 22 ([some (.ref 91), some (.int t), some (.int (0 : Int32)), some (.int (0 : Int32))], [], (mk I J)))))))) :
    mj_Met Ω l false mX12_heap d 0 0 [.ref 91, .int t] (mk I J) Φ := mj_entry (by decide) rfl (fun h => (by cases h)) (Nat.le_of_ble_eq_true rfl) (mj_blk (μ := mX12_heap) (P := pX12_heap) (cut := cutX12_heap) (cs := csX12_heap) dX12_heap csX12_heap_ok hd 34 0 _ h)
set_option maxRecDepth 100000 in
set_option maxHeartbeats 4000000 in
theorem bX12_heap_22 {Ω : mj_Om} {l : Launch} {d : Nat} {Φ : Option Value → mj_M → Prop} (hd : 3 ≤ d) (x1 : Int32) (x2 : Int32) (x3 : Int32) (I : Nat → Nat → Int32) (J : Nat → Nat → Int64)
    (h : ((if x3 < (I 91 22) then (mj_gd (mj_inB (((6 : Int32) * x3) + (0 : Int32)) 49) (mj_gd (!decide ((I 104 0) = 0)) (if (((I 106 ((((6 : Int32) * x3) + (0 : Int32))).toNatClampNeg) * (3 : Int32)) / (I 104 0)) = x1 then (mj_G Ω l false mX12_heap d 0 0 Φ 0 0 22 ([some (.ref 91), some (.int x1), some (.int (x2 + (1 : Int32))), some (.int (x3 + (1 : Int32)))], [], (mk I J))) else (mj_G Ω l false mX12_heap d 0 0 Φ 0 0 22 ([some (.ref 91), some (.int x1), some (.int (x2 + (0 : Int32))), some (.int (x3 + (1 : Int32)))], [], (mk I J)))))) else (Φ (some (.int x2)) (mk I J))))) :
    mj_G Ω l false mX12_heap d 0 0 Φ 0 0 22 ([some (.ref 91), some (.int x1), some (.int x2), some (.int x3)], [], mk I J) := mj_blk (μ := mX12_heap) (P := pX12_heap) (cut := cutX12_heap) (cs := csX12_heap) dX12_heap csX12_heap_ok hd 34 22 _ h
def tX12_heap : mj_PT := fun as M Φ => match as with
  | [.ref this, .int t] => ((this = 91 ∧ mj_isk M) ∧ (∃ m : Nat, (∃ R : RF, ((qM M.2.2.1 m R) ∧ (∀ I1 : Nat → Nat → Int32, (fr Scr M.2.2.1 I1) → Φ (some (.int (heapR (nM M.2.2.1) (lv7 (M.2.2.1 104)) (VM M.2.2.1) t))) (M.1, M.2.1, I1, M.2.2.2))))))
  | _ => False
set_option maxHeartbeats 4000000 in
theorem mnX12_heap {Ω : mj_Om} {l : Launch} {d : Nat} {Φ : Option Value → mj_M → Prop} (hd : 3 ≤ d) (t : Int32) (m : Nat) (R : RF) (I : Nat → Nat → Int32) (J : Nat → Nat → Int64) (hp : qM I m R) (h : ∀ I1 : Nat → Nat → Int32, (fr Scr I I1) → Φ (some (.int (heapR (nM I) (lv7 (I 104)) (VM I) t))) (mk I1 J)) : mj_Met Ω l false mX12_heap d 0 0 [.ref 91, .int t] (mk I J) Φ := by
  refine inX12_heap hd t I J ?_
  obtain ⟨⟨hc, hn⟩, hR, hFF, h25, h26⟩ := id hp
  have hH : ¬ (0 < nM I ∧ ¬ t < 0 ∧ ¬ 2 < t) → Φ (some (.int (-1))) (mk I J) := fun q => by
    have := h I fr_rf
    unfold heapR at this
    rwa [cif_f q] at this
  rw [hc]
  by_cases q : nI (nM I) = 0
  · rw [if_pos q]; rw [zero_n (by omega)] at q; exact hH (fun w' => by omega)
  rw [if_neg q]
  rw [zero_n (by omega)] at q
  by_cases q1 : t < 0
  · rw [if_pos q1]; exact hH (fun w' => w'.2.1 q1)
  rw [if_neg q1]
  by_cases q2 : 2 < t
  · rw [if_pos q2]; exact hH (fun w' => w'.2.2 q2)
  rw [if_neg q2]
  have h := h I fr_rf
  unfold heapR at h
  rw [cif_t ⟨by omega, q1, q2⟩] at h
  have hF := hFF (by omega)
  obtain ⟨l1, l2⟩ := l0_nz hF.1
  have e0 : I 104 0 = lv7 (I 104) 0 := (lv7_at (by decide)).symm
  refine lp_inv (σ := Int32) (n := nM I) (G := fun i x => mj_G Ω l false mX12_heap d 0 0 Φ 0 0 22 ([some (.ref 91), some (.int t), some (.int x), some (.int (nI i))], [], mk I J)) (fun i x => x = thC (lv7 (I 104)) (VM I) t i) (fun i x hi hI hk => ?_) (fun x hI => ?_) (nM I) 0 0 (by omega) rfl
  · refine bX12_heap_22 hd t x (nI i) I J ?_
    rw [hc, if_pos (show nI i < nI (nM I) by rw [jn_lt (by omega) (by omega)]; exact hi)]
    simp (disch := omega) only [jn_in, jn_cl, gd_dec, jn_succ, n6_0]
    rw [e0, gd_nz l2, ← VM_0 (I := I) (b := i) hi, Int32.add_zero]
    split
    · rename_i z; exact hk _ (by rw [hI, thC, if_pos z])
    · rename_i z; exact hk _ (by rw [hI, thC, if_neg z])
  · refine bX12_heap_22 hd t x (nI (nM I)) I J ?_
    rw [hc, if_neg Int32.lt_irrefl, hI]
    exact h
theorem sdX12_heap : mj_Sd mX12_heap 3 tX12_heap := by
  intro Ω l d hd as M Φ h
  unfold tX12_heap at h
  split at h
  · rename_i z_this t
    obtain ⟨⟨rfl, hM⟩, m, R, hp, h⟩ := h
    rw [mj_isk_of hM]
    exact mnX12_heap hd t m R _ _ hp (by
      rw [mj_isk_of hM] at h
      exact h)
  · exact h.elim
def csX12_hole : List (Nat × Nat × Nat × mj_PT) := [(283, 0, 3, mj_rcv 12 tX12_of), (289, 0, 3, mj_rcv 12 tX12_isHeld), (306, 0, 2, mj_rcv 12 tX12_isBoat)]
theorem csX12_hole_ok : mj_Cs mX12_hole 3 csX12_hole := (mj_CsV (D' := 1) (ci := 12) (q := (RX12, TX12, 45)) sdX12_of (Nat.le_of_ble_eq_true rfl) fX12_of rfl rfl iX12_of vX12_of (by decide +kernel) l12_283 (mj_CsV (D' := 2) (ci := 12) (q := (RX12, TX12, 45)) sdX12_isHeld (Nat.le_of_ble_eq_true rfl) fX12_isHeld rfl rfl iX12_isHeld vX12_isHeld (by decide +kernel) l12_289 (mj_CsV (D' := 2) (ci := 12) (q := (RX12, TX12, 45)) sdX12_isBoat (Nat.le_of_ble_eq_true rfl) fX12_isBoat rfl rfl iX12_isBoat vX12_isBoat (by decide +kernel) l12_306 mj_Cs0)))
def cutX12_hole : List (Nat × List Bool) := [(12, [true, true, true])]
set_option maxRecDepth 100000 in
set_option maxHeartbeats 4000000 in
theorem inX12_hole {Ω : mj_Om} {l : Launch} {d : Nat} {Φ : Option Value → mj_M → Prop} (hd : 3 ≤ d) (b : Int32) (I : Nat → Nat → Int32) (J : Nat → Nat → Int64)
    (h : ((if b < (0 : Int32) then (Φ (some (.int (-1 : Int32))) (mk I J)) else (if ((I 91 22) - (1 : Int32)) < b then (Φ (some (.int (-1 : Int32))) (mk I J)) else (mj_G Ω l false mX12_hole d 0 0 Φ 0 0 12 ([some (.ref 91), some (.int b), some (.int (0 : Int32))], [], (mk I J))))))) :
    mj_Met Ω l false mX12_hole d 0 0 [.ref 91, .int b] (mk I J) Φ := mj_entry (by decide) rfl (fun h => (by cases h)) (Nat.le_of_ble_eq_true rfl) (mj_blk (μ := mX12_hole) (P := pX12_hole) (cut := cutX12_hole) (cs := csX12_hole) dX12_hole csX12_hole_ok hd 35 0 _ h)
set_option maxRecDepth 100000 in
set_option maxHeartbeats 4000000 in
theorem bX12_hole_12 {Ω : mj_Om} {l : Launch} {d : Nat} {Φ : Option Value → mj_M → Prop} (hd : 3 ≤ d) (x1 : Int32) (x2 : Int32) (I : Nat → Nat → Int32) (J : Nat → Nat → Int64)
    (h : ((mj_gd (mj_inB (((6 : Int32) * x1) + (0 : Int32)) 49) (if (0 : Int32) < ((I 106 ((((6 : Int32) * x1) + (0 : Int32))).toNatClampNeg) - x2) then (mj_gd (mj_inB (((6 : Int32) * x1) + (0 : Int32)) 49) (mj_gd (mj_inB (((6 : Int32) * x1) + (1 : Int32)) 49) ((91 = 91 ∧ mj_isk (mk I J)) ∧ ((okM I) ∧ (if (b2i (held (nM I) (VM I) (((I 106 ((((6 : Int32) * x1) + (0 : Int32))).toNatClampNeg) - x2) - (1 : Int32)) (I 106 ((((6 : Int32) * x1) + (1 : Int32))).toNatClampNeg))) = (0 : Int32) then (mj_G Ω l false mX12_hole d 0 0 Φ 0 0 12 ([some (.ref 91), some (.int x1), some (.int (x2 + (1 : Int32)))], [], (mk I J))) else (Φ (some (.int x2)) (mk I J))))))) else (Φ (some (.int x2)) (mk I J)))))) :
    mj_G Ω l false mX12_hole d 0 0 Φ 0 0 12 ([some (.ref 91), some (.int x1), some (.int x2)], [], mk I J) := mj_blk (μ := mX12_hole) (P := pX12_hole) (cut := cutX12_hole) (cs := csX12_hole) dX12_hole csX12_hole_ok hd 35 12 _ h
def tX12_hole : mj_PT := fun as M Φ => match as with
  | [.ref this, .int b] => ((this = 91 ∧ mj_isk M) ∧ (∃ m : Nat, (∃ R : RF, ((qM M.2.2.1 m R) ∧ (∀ I1 : Nat → Nat → Int32, (fr Scr M.2.2.1 I1) → Φ (some (.int (holeR (nM M.2.2.1) (VM M.2.2.1) b))) (M.1, M.2.1, I1, M.2.2.2))))))
  | _ => False
set_option maxHeartbeats 4000000 in
theorem mnX12_hole {Ω : mj_Om} {l : Launch} {d : Nat} {Φ : Option Value → mj_M → Prop} (hd : 3 ≤ d) (b : Int32) (m : Nat) (R : RF) (I : Nat → Nat → Int32) (J : Nat → Nat → Int64) (hp : qM I m R) (h : ∀ I1 : Nat → Nat → Int32, (fr Scr I I1) → Φ (some (.int (holeR (nM I) (VM I) b))) (mk I1 J)) : mj_Met Ω l false mX12_hole d 0 0 [.ref 91, .int b] (mk I J) Φ := by
  refine inX12_hole hd b I J ?_
  obtain ⟨⟨hc, hn⟩, hR, hFF, h25, h26⟩ := id hp
  have hH : ¬ (okBN (nM I) b) → Φ (some (.int (-1))) (mk I J) := fun q => by
    have := h I fr_rf
    unfold holeR at this
    rwa [cif_f q] at this
  by_cases hb0 : b < 0
  · rw [if_pos hb0]; exact hH (fun w => ((in_n hn).mpr w).1 hb0)
  rw [if_neg hb0, hc]
  by_cases hb1 : nI (nM I) - 1 < b
  · rw [if_pos hb1]; exact hH (fun w => ((in_n hn).mpr w).2 hb1)
  rw [if_neg hb1]
  have hok := (in_n hn).mp ⟨hb0, hb1⟩
  obtain ⟨k, hk, rfl⟩ := okB_of hb0 hok.2 hn
  have hF := hFF (by omega)
  have h := h I fr_rf
  unfold holeR at h
  rw [cif_t hok, jn_cl (by omega)] at h
  have hcol := (hF.2.2 k hk).1
  have ec := jn_of (x := VM I 0 k) (by rw [Int32.le_iff_toInt_le, i_0]; exact hcol.1)
  have hlt := cl_lt (VM I 0 k)
  generalize (VM I 0 k).toNatClampNeg = cc at ec hlt h
  have key : ∀ (c a : Nat), a + c = cc → Φ (some (.int (holG (nM I) (VM I) (VM I 1 k) c (nI a)))) (mk I J) → mj_G Ω l false mX12_hole d 0 0 Φ 0 0 12 ([some (.ref 91), some (.int (nI k)), some (.int (nI a))], [], mk I J) := by
    intro c
    induction c with
    | zero =>
      intro a hx h'
      refine bX12_hole_12 hd (nI k) (nI a) I J ?_
      simp (disch := omega) only [jn_in, jn_cl, gd_dec, n6_0, n6_1]
      rw [← VM_0 (I := I) (b := k) hk, ec, (jn_sub (by omega) : nI cc - nI a = nI (cc - a)), show cc - a = 0 by omega, if_neg (by decide)]
      exact h'
    | succ c ih =>
      intro a hx h'
      refine bX12_hole_12 hd (nI k) (nI a) I J ?_
      simp (disch := omega) only [jn_in, jn_cl, gd_dec, n6_0, n6_1, jn_succ]
      rw [← VM_0 (I := I) (b := k) hk, ← VM_1 (I := I) (b := k) hk, ec, (jn_sub (by omega) : nI cc - nI a = nI (cc - a)), show cc - a = c + 1 by omega, if_pos (show (0 : Int32) < nI (c + 1) by rw [Int32.lt_iff_toInt_lt, jn_toInt (by omega), i_0]; omega), show nI (c + 1) - (1 : Int32) = nI c from jn_sub (a := c + 1) (b := 1) (by omega)]
      refine ⟨⟨by trivial, mj_isk_mk _ _⟩, ⟨hc, hn⟩, ?_⟩
      rw [holG, jn_succ] at h'
      split
      · rename_i z; rw [b2i_e0] at z; rw [cif_f z] at h'
        exact ih (a + 1) (by omega) h'
      · rename_i z; rw [b2i_e0] at z; rw [cif_t (Classical.not_not.mp z)] at h'; exact h'
  exact key cc 0 (by omega) h
theorem sdX12_hole : mj_Sd mX12_hole 3 tX12_hole := by
  intro Ω l d hd as M Φ h
  unfold tX12_hole at h
  split at h
  · rename_i z_this b
    obtain ⟨⟨rfl, hM⟩, m, R, hp, h⟩ := h
    rw [mj_isk_of hM]
    exact mnX12_hole hd b m R _ _ hp (by
      rw [mj_isk_of hM] at h
      exact h)
  · exact h.elim
def csX12_which : List (Nat × Nat × Nat × mj_PT) := [(214, 1, 3, tX12_in), (283, 0, 3, mj_rcv 12 tX12_of), (292, 0, 3, mj_rcv 12 tX12_statusBy), (297, 0, 2, mj_rcv 12 tX12_isShadowed)]
theorem csX12_which_ok : mj_Cs mX12_which 3 csX12_which := (mj_CsS (D' := 1) sdX12_in (Nat.le_of_ble_eq_true rfl) fX12_in sX12_in (by decide +kernel) l12_214 (mj_CsV (D' := 1) (ci := 12) (q := (RX12, TX12, 45)) sdX12_of (Nat.le_of_ble_eq_true rfl) fX12_of rfl rfl iX12_of vX12_of (by decide +kernel) l12_283 (mj_CsV (D' := 2) (ci := 12) (q := (RX12, TX12, 45)) sdX12_statusBy (Nat.le_of_ble_eq_true rfl) fX12_statusBy rfl rfl iX12_statusBy vX12_statusBy (by decide +kernel) l12_292 (mj_CsV (D' := 2) (ci := 12) (q := (RX12, TX12, 45)) sdX12_isShadowed (Nat.le_of_ble_eq_true rfl) fX12_isShadowed rfl rfl iX12_isShadowed vX12_isShadowed (by decide +kernel) l12_297 mj_Cs0))))
def cutX12_which : List (Nat × List Bool) := [(22, [true, true, true, true, false])]
def pX12_which_0 : List (Nat × Instr × Nat) := [(0, .aload_n 0, 1), (1, .getfield 255, 3), (4, .ifCond .eq 12, 3), (7, .iload_n 1, 1), (8, .iconst 0, 1), (9, .iconst 2, 1), (10, .invokestatic 214, 3), (13, .ifCond .ne 5, 3), (16, .iconst (-1), 1), (17, .ireturn, 1), (18, .iconst 0, 1), (19, .istore_n 2, 1), (20, .iconst 0, 1), (21, .istore_n 3, 1), (22, .iload_n 3, 1)]
set_option maxRecDepth 100000 in
theorem dX12_which_0 : mj_pd cX12_which pX12_which_0 := mj_pdB (by decide +kernel)
set_option maxRecDepth 100000 in
set_option maxHeartbeats 4000000 in
theorem inX12_which {Ω : mj_Om} {l : Launch} {d : Nat} {Φ : Option Value → mj_M → Prop} (hd : 3 ≤ d) (w : Int32) (I : Nat → Nat → Int32) (J : Nat → Nat → Int64)
    (h : ((if (I 91 22) = (0 : Int32) then (Φ (some (.int (-1 : Int32))) (mk I J)) else (if w < (0 : Int32) then (Φ (some (.int (-1 : Int32))) (mk I J)) else (if (2 : Int32) < w then (Φ (some (.int (-1 : Int32))) (mk I J)) else (mj_G Ω l false mX12_which d 0 0 Φ 0 0 22 ([some (.ref 91), some (.int w), some (.int (0 : Int32)), some (.int (0 : Int32)), none], [], (mk I J)))))))) :
    mj_Met Ω l false mX12_which d 0 0 [.ref 91, .int w] (mk I J) Φ := mj_entry (by decide) rfl (fun h => (by cases h)) (Nat.le_of_ble_eq_true rfl) (mj_blk (μ := mX12_which) (P := pX12_which_0) (cut := cutX12_which) (cs := csX12_which) dX12_which_0 csX12_which_ok hd 16 0 _ h)
def pX12_which_22 : List (Nat × Instr × Nat) := [(22, .iload_n 3, 1), (23, .aload_n 0, 1), (24, .getfield 255, 3), (27, .if_icmp .ge 89, 3), (30, .iload_n 1, 1), (31, .ifCond .ne 19, 3), (34, .aload_n 0, 1), (35, .iload_n 3, 1), (36, .invokevirtual 297, 3), (39, .ifCond .ne 7, 3), (42, .iconst 1, 1), (43, .goto 50, 3), (46, .iconst 0, 1), (47, .goto 46, 3), (50, .iload_n 1, 1), (51, .iconst 1, 1), (52, .if_icmp .ne 20, 3), (55, .aload_n 0, 1), (56, .iload_n 3, 1), (57, .iconst 1, 1), (58, .invokevirtual 283, 3), (61, .ifCond .ge 7, 3), (64, .iconst 1, 1), (65, .goto 28, 3), (68, .iconst 0, 1), (69, .goto 24, 3), (72, .aload_n 0, 1), (73, .iload_n 3, 1), (74, .aload_n 0, 1), (75, .getfield 46, 3), (78, .bipush 6, 2), (80, .iaload, 1), (81, .invokevirtual 292, 3), (84, .iconst 2, 1), (85, .if_icmp .ne 7, 3), (88, .iconst 1, 1), (89, .goto 4, 3), (92, .iconst 0, 1), (93, .istore 4, 2), (95, .iload_n 2, 1), (96, .iload 4, 2), (98, .ifCond .eq 9, 3), (101, .iconst 1, 1), (102, .iload_n 3, 1), (103, .ishl, 1), (104, .goto 4, 3), (107, .iconst 0, 1), (108, .ior, 1), (109, .istore_n 2, 1), (110, .iinc 3 1, 3), (113, .goto (-91), 3), (116, .iload_n 2, 1), (117, .ireturn, 1)]
set_option maxRecDepth 100000 in
theorem dX12_which_22 : mj_pd cX12_which pX12_which_22 := mj_pdB (by decide +kernel)
set_option maxRecDepth 100000 in
set_option maxHeartbeats 4000000 in
theorem bX12_which_22 {Ω : mj_Om} {l : Launch} {d : Nat} {Φ : Option Value → mj_M → Prop} (hd : 3 ≤ d) (x1 : Int32) (x2 : Int32) (x3 : Int32) (I : Nat → Nat → Int32) (J : Nat → Nat → Int64)
    (h : ((if x3 < (I 91 22) then (if x1 = (0 : Int32) then ((91 = 91 ∧ mj_isk (mk I J)) ∧ ((okM I ∧ isB (nM I) x3 ∧ colB (nM I) (VM I)) ∧ (if (b2i (shad (nM I) (VM I) (x3).toNatClampNeg)) = (0 : Int32) then (mj_G Ω l false mX12_which d 0 0 Φ 0 0 22 ([some (.ref 91), some (.int x1), some (.int (x2 ||| ((1 : Int32) <<< (x3 &&& 31)))), some (.int (x3 + (1 : Int32))), none], [], (mk I J))) else (mj_G Ω l false mX12_which d 0 0 Φ 0 0 22 ([some (.ref 91), some (.int x1), some (.int (x2 ||| (0 : Int32))), some (.int (x3 + (1 : Int32))), none], [], (mk I J)))))) else (if x1 = (1 : Int32) then (mj_gd (mj_inB (((6 : Int32) * x3) + (1 : Int32)) 49) (if (I 106 ((((6 : Int32) * x3) + (1 : Int32))).toNatClampNeg) < (0 : Int32) then (mj_G Ω l false mX12_which d 0 0 Φ 0 0 22 ([some (.ref 91), some (.int x1), some (.int (x2 ||| ((1 : Int32) <<< (x3 &&& 31)))), some (.int (x3 + (1 : Int32))), none], [], (mk I J))) else (mj_G Ω l false mX12_which d 0 0 Φ 0 0 22 ([some (.ref 91), some (.int x1), some (.int (x2 ||| (0 : Int32))), some (.int (x3 + (1 : Int32))), none], [], (mk I J))))) else ((91 = 91 ∧ mj_isk (mk I J)) ∧ (∃ b880 : Nat, x3 = nI b880 ∧ ((okM I ∧ b880 < nM I) ∧ (if (stat (I 104 6) (VM I) b880) = (2 : Int32) then (mj_G Ω l false mX12_which d 0 0 Φ 0 0 22 ([some (.ref 91), some (.int x1), some (.int (x2 ||| ((1 : Int32) <<< (x3 &&& 31)))), some (.int (x3 + (1 : Int32))), none], [], (mk I J))) else (mj_G Ω l false mX12_which d 0 0 Φ 0 0 22 ([some (.ref 91), some (.int x1), some (.int (x2 ||| (0 : Int32))), some (.int (x3 + (1 : Int32))), none], [], (mk I J))))))))) else (Φ (some (.int x2)) (mk I J))))) :
    mj_G Ω l false mX12_which d 0 0 Φ 0 0 22 ([some (.ref 91), some (.int x1), some (.int x2), some (.int x3), none], [], mk I J) := mj_blk (μ := mX12_which) (P := pX12_which_22) (cut := cutX12_which) (cs := csX12_which) dX12_which_22 csX12_which_ok hd 54 22 _ h
def tX12_which : mj_PT := fun as M Φ => match as with
  | [.ref this, .int w] => ((this = 91 ∧ mj_isk M) ∧ (∃ m : Nat, (∃ R : RF, ((qM M.2.2.1 m R) ∧ (∀ I1 : Nat → Nat → Int32, (fr Scr M.2.2.1 I1) → Φ (some (.int (whichR (nM M.2.2.1) (lv7 (M.2.2.1 104)) (VM M.2.2.1) w))) (M.1, M.2.1, I1, M.2.2.2))))))
  | _ => False
set_option maxHeartbeats 8000000 in
theorem mnX12_which {Ω : mj_Om} {l : Launch} {d : Nat} {Φ : Option Value → mj_M → Prop} (hd : 3 ≤ d) (w : Int32) (m : Nat) (R : RF) (I : Nat → Nat → Int32) (J : Nat → Nat → Int64) (hp : qM I m R) (h : ∀ I1 : Nat → Nat → Int32, (fr Scr I I1) → Φ (some (.int (whichR (nM I) (lv7 (I 104)) (VM I) w))) (mk I1 J)) : mj_Met Ω l false mX12_which d 0 0 [.ref 91, .int w] (mk I J) Φ := by
  refine inX12_which hd w I J ?_
  obtain ⟨⟨hc, hn⟩, hR, hFF, h25, h26⟩ := id hp
  have hH : ¬ (0 < nM I ∧ ¬ w < 0 ∧ ¬ 2 < w) → Φ (some (.int (-1))) (mk I J) := fun q => by
    have := h I fr_rf
    unfold whichR at this
    rwa [cif_f q] at this
  rw [hc]
  by_cases q : nI (nM I) = 0
  · rw [if_pos q]; rw [zero_n (by omega)] at q; exact hH (fun w' => by omega)
  rw [if_neg q]
  rw [zero_n (by omega)] at q
  by_cases q1 : w < 0
  · rw [if_pos q1]; exact hH (fun w' => w'.2.1 q1)
  rw [if_neg q1]
  by_cases q2 : 2 < w
  · rw [if_pos q2]; exact hH (fun w' => w'.2.2 q2)
  rw [if_neg q2]
  have h := h I fr_rf
  unfold whichR at h
  rw [cif_t ⟨by omega, q1, q2⟩] at h
  have hF := hFF (by omega)
  have e6 : I 104 6 = lv7 (I 104) 6 := (lv7_at (by decide)).symm
  refine lp_inv (σ := Int32) (n := nM I) (G := fun i x => mj_G Ω l false mX12_which d 0 0 Φ 0 0 22 ([some (.ref 91), some (.int w), some (.int x), some (.int (nI i)), none], [], mk I J)) (fun i x => x = whN (whP (nM I) (lv7 (I 104)) (VM I) w) i) (fun i x hi hI hk => ?_) (fun x hI => ?_) (nM I) 0 0 (by omega) rfl
  · refine bX12_which_22 hd w x (nI i) I J ?_
    rw [hc, if_pos (show nI i < nI (nM I) by rw [jn_lt (by omega) (by omega)]; exact hi), jn_succ, Int32.or_zero]
    have k1 := fun (p : whP (nM I) (lv7 (I 104)) (VM I) w i) => hk (x ||| (1 <<< (nI i &&& 31))) (by rw [hI, whN, cif_t p])
    have k0 := fun (p : ¬ whP (nM I) (lv7 (I 104)) (VM I) w i) => hk x (by rw [hI, whN, cif_f p])
    by_cases w0 : w = 0
    · rw [if_pos w0]
      refine ⟨⟨by trivial, mj_isk_mk _ _⟩, ⟨⟨hc, hn⟩, isB_nI hi hn, FOk_col hF⟩, ?_⟩
      rw [jn_cl (by omega)]
      split
      · rename_i z; rw [b2i_e0] at z; exact k1 (Or.inl ⟨w0, z⟩)
      · rename_i z; rw [b2i_e0] at z
        refine k0 (fun q => z ?_)
        rcases q with q | q | q
        · exact q.2
        · rw [w0] at q; exact absurd q.1 (by decide)
        · exact absurd w0 q.1
    rw [if_neg w0]
    by_cases w1 : w = 1
    · rw [if_pos w1]
      simp (disch := omega) only [jn_in, jn_cl, gd_dec, n6_1]
      rw [← VM_1 (I := I) (b := i) hi]
      split
      · rename_i z; exact k1 (Or.inr (Or.inl ⟨w1, z⟩))
      · rename_i z
        refine k0 (fun q => z ?_)
        rcases q with q | q | q
        · exact absurd q.1 w0
        · exact q.2
        · exact absurd w1 q.2.1
    rw [if_neg w1, e6]
    refine ⟨⟨by trivial, mj_isk_mk _ _⟩, i, rfl, ⟨⟨hc, hn⟩, hi⟩, ?_⟩
    split
    · rename_i z; exact k1 (Or.inr (Or.inr ⟨w0, w1, z⟩))
    · rename_i z
      refine k0 (fun q => z ?_)
      rcases q with q | q | q
      · exact absurd q.1 w0
      · exact absurd q.1 w1
      · exact q.2.2
  · refine bX12_which_22 hd w x (nI (nM I)) I J ?_
    rw [hc, if_neg Int32.lt_irrefl, hI]
    exact h
theorem sdX12_which : mj_Sd mX12_which 3 tX12_which := by
  intro Ω l d hd as M Φ h
  unfold tX12_which at h
  split at h
  · rename_i z_this w
    obtain ⟨⟨rfl, hM⟩, m, R, hp, h⟩ := h
    rw [mj_isk_of hM]
    exact mnX12_which hd w m R _ _ hp (by
      rw [mj_isk_of hM] at h
      exact h)
  · exact h.elim
