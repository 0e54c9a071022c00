/-! ===== the tape as a text: signs, blanks, numbers; the class's and the reference's readers of signs (by program, wip/whole/p73.py) ===== -/
def sg (t : Nat) (τ : Nat → Int32) (p : Nat) : Int32 := if p < t then τ p else -1
def skN (t : Nat) (τ : Nat → Int32) : Nat → Nat → Nat
  | 0, p => p
  | f + 1, p => if sg t τ p = 32 then skN t τ f (p + 1) else p
def skp (t : Nat) (τ : Nat → Int32) (p : Nat) : Nat := skN t τ (t - p) p
def nsg (t : Nat) (τ : Nat → Int32) (p : Nat) : Int32 := sg t τ (skp t τ p)
def TX (t : Nat) (τ : Nat → Int32) : Prop := t ≤ 240 ∧ ∀ k, k < t → 1 ≤ (τ k).toInt ∧ (τ k).toInt ≤ 255
def TC (I : Nat → Nat → Int32) (t : Nat) (τ : Nat → Int32) : Prop := TX t τ ∧ I 1 1 = nI t ∧ ∀ k, k < t → I 2 k = τ k
def TM (I : Nat → Nat → Int32) (t : Nat) (τ : Nat → Int32) : Prop := TX t τ ∧ I 91 2 = nI t ∧ ∀ k, k < t → I 92 k = τ k
theorem sg_lt {t : Nat} {τ : Nat → Int32} {p : Nat} (h : p < t) : sg t τ p = τ p := if_pos h
theorem sg_ge {t : Nat} {τ : Nat → Int32} {p : Nat} (h : ¬ p < t) : sg t τ p = -1 := if_neg h
theorem sg_ne {t : Nat} {τ : Nat → Int32} {p : Nat} {s : Int32} (h : sg t τ p = s) (hs : ¬ s = -1) : p < t := by
  rcases Nat.lt_or_ge p t with q | q
  · exact q
  · exact absurd (h.symm.trans (sg_ge (by omega))) hs
theorem skp_y {t : Nat} {τ : Nat → Int32} {p : Nat} (h : sg t τ p = 32) : skp t τ p = skp t τ (p + 1) := by
  have hp : p < t := sg_ne h (by decide)
  unfold skp
  rw [show t - p = (t - (p + 1)) + 1 by omega, skN, if_pos h]
theorem skp_n {t : Nat} {τ : Nat → Int32} {p : Nat} (h : ¬ sg t τ p = 32) : skp t τ p = p := by
  unfold skp
  cases hf : t - p with
  | zero => rfl
  | succ f => rw [skN, if_neg h]
theorem skN_b {t : Nat} {τ : Nat → Int32} : ∀ f p, p ≤ skN t τ f p ∧ skN t τ f p ≤ p + f := by
  intro f
  induction f with
  | zero => intro p; exact ⟨Nat.le_refl _, Nat.le_refl _⟩
  | succ f ih =>
    intro p
    rw [skN]
    split
    · have := ih (p + 1); omega
    · omega
theorem skp_ge {t : Nat} {τ : Nat → Int32} {p : Nat} : p ≤ skp t τ p := (skN_b _ _).1
theorem skp_le {t : Nat} {τ : Nat → Int32} {p : Nat} (h : p ≤ t) : skp t τ p ≤ t := by
  have := (skN_b (t := t) (τ := τ) (t - p) p).2
  unfold skp
  omega
theorem nsg_32 {t : Nat} {τ : Nat → Int32} : ∀ f p, t - p = f → ¬ sg t τ (skp t τ p) = 32 := by
  intro f
  induction f with
  | zero =>
    intro p hp
    have h : ¬ sg t τ p = 32 := by rw [sg_ge (by omega)]; decide
    rw [skp_n h]; exact h
  | succ f ih =>
    intro p hp
    by_cases h : sg t τ p = 32
    · rw [skp_y h]; exact ih (p + 1) (by omega)
    · rw [skp_n h]; exact h
theorem skp_skp {t : Nat} {τ : Nat → Int32} {p : Nat} : skp t τ (skp t τ p) = skp t τ p := skp_n (nsg_32 _ p rfl)
theorem nsg_skp {t : Nat} {τ : Nat → Int32} {p : Nat} : nsg t τ (skp t τ p) = nsg t τ p := by unfold nsg; rw [skp_skp]
theorem nsg_p {t : Nat} {τ : Nat → Int32} {p : Nat} {s : Int32} (h : nsg t τ p = s) (hs : ¬ s = -1) : skp t τ p < t := sg_ne h hs
theorem sg_b {t : Nat} {τ : Nat → Int32} {p : Nat} (h : TX t τ) : -1 ≤ (sg t τ p).toInt ∧ (sg t τ p).toInt ≤ 255 := by
  unfold sg
  split
  · rename_i q; have := h.2 p q; omega
  · decide
theorem TC_fr {I I1 : Nat → Nat → Int32} {t : Nat} {τ : Nat → Int32} (h : TC I t τ) (h1 : I1 1 1 = I 1 1) (h2 : ∀ k, I1 2 k = I 2 k) : TC I1 t τ := ⟨h.1, by rw [h1]; exact h.2.1, fun k hk => by rw [h2]; exact h.2.2 k hk⟩
theorem TM_fr {I I1 : Nat → Nat → Int32} {t : Nat} {τ : Nat → Int32} (h : TM I t τ) (h1 : I1 91 2 = I 91 2) (h2 : ∀ k, I1 92 k = I 92 k) : TM I1 t τ := ⟨h.1, by rw [h1]; exact h.2.1, fun k hk => by rw [h2]; exact h.2.2 k hk⟩
theorem nlt {a b : Nat} (h : a < b) (hb : b < 2147483648) : nI a < nI b := by rw [jn_lt (by omega) hb]; exact h
theorem nnl {a b : Nat} (h : b ≤ a) (ha : a < 2147483648) : ¬ nI a < nI b := by rw [jn_lt ha (by omega)]; omega
def isD (s : Int32) : Prop := 48 ≤ s.toInt ∧ s.toInt ≤ 57
theorem isD_lo {s : Int32} : (s < 48) = (s.toInt < 48) := by rw [Int32.lt_iff_toInt_lt]; rfl
theorem isD_hi {s : Int32} : ((57 : Int32) < s) = (57 < s.toInt) := by rw [Int32.lt_iff_toInt_lt]; rfl
def rFr (c k : Nat) : Prop := c = 1 ∧ k = 2
def mFr (c k : Nat) : Prop := c = 91 ∧ k = 3
def csX8_rawSignS : List (Nat × Nat × Nat × mj_PT) := []
theorem csX8_rawSignS_ok : mj_Cs mX8_rawSign 1 csX8_rawSignS := mj_Cs0
def cutX8_rawSignS : List (Nat × List Bool) := []
set_option maxRecDepth 100000 in
set_option maxHeartbeats 4000000 in
theorem inX8_rawSignS {Ω : mj_Om} {l : Launch} {d : Nat} {Φ : Option Value → mj_M → Prop} (hd : 1 ≤ d) (I : Nat → Nat → Int32) (J : Nat → Nat → Int64)
    (h : ((if (I 1 2) < (0 : Int32) then (Φ (some (.int (-1 : Int32))) (mk I J)) else (if (I 1 2) < (I 1 1) then (if (I 1 2) < (240 : Int32) then (mj_gd (mj_inB (I 1 2) 240) (Φ (some (.int (I 2 ((I 1 2)).toNatClampNeg))) (mk I J))) else (Φ (some (.int (-1 : Int32))) (mk I J))) else (Φ (some (.int (-1 : Int32))) (mk I J)))))) :
    mj_Met Ω l false mX8_rawSign d 0 0 [.ref 1] (mk I J) Φ := mj_entry (by decide) rfl (fun h => (by cases h)) (Nat.le_of_ble_eq_true rfl) (mj_blk (μ := mX8_rawSign) (P := pX8_rawSign) (cut := cutX8_rawSignS) (cs := csX8_rawSignS) dX8_rawSign csX8_rawSignS_ok hd 21 0 _ h)
def tX8_rawSignS : mj_PT := fun as M Φ => match as with
  | [.ref this] => ((this = 1 ∧ mj_isk M) ∧ (∃ t : Nat, (∃ τ : Nat → Int32, (∃ p : Nat, ((TC M.2.2.1 t τ ∧ M.2.2.1 1 2 = nI p ∧ p ≤ 300) ∧ Φ (some (.int (sg t τ p))) M)))))
  | _ => False
theorem mnX8_rawSignS {Ω : mj_Om} {l : Launch} {d : Nat} {Φ : Option Value → mj_M → Prop} (hd : 1 ≤ d) (t : Nat) (τ : Nat → Int32) (p : Nat) (I : Nat → Nat → Int32) (J : Nat → Nat → Int64) (hp : TC I t τ ∧ I 1 2 = nI p ∧ p ≤ 300) (h : Φ (some (.int (sg t τ p))) (mk I J)) : mj_Met Ω l false mX8_rawSign d 0 0 [.ref 1] (mk I J) Φ := by
  refine inX8_rawSignS hd I J ?_
  obtain ⟨⟨hx, h1, h2⟩, h3, h4⟩ := hp
  have ht := hx.1
  rw [h3, h1]
  rw [if_neg (show ¬ nI p < 0 by rw [show (0 : Int32) = nI 0 from rfl, jn_lt (by omega) (by omega)]; omega)]
  by_cases q : p < t
  · rw [if_pos (nlt q (by omega)), if_pos (show nI p < 240 by rw [show (240 : Int32) = nI 240 from rfl, jn_lt (by omega) (by omega)]; omega)]
    simp (disch := omega) only [jn_in, jn_cl, gd_dec]
    rw [h2 p q, ← sg_lt (τ := τ) q]
    exact h
  · rw [if_neg (nnl (a := p) (b := t) (by omega) (by omega))]
    rw [sg_ge q] at h
    exact h
theorem sdX8_rawSignS : mj_Sd mX8_rawSign 1 tX8_rawSignS := by
  intro Ω l d hd as M Φ h
  unfold tX8_rawSignS at h
  split at h
  · rename_i z_this
    obtain ⟨⟨rfl, hM⟩, t, τ, p, hp, h⟩ := h
    rw [mj_isk_of hM]
    exact mnX8_rawSignS hd t τ p _ _ hp (by
      rw [mj_isk_of hM] at h
      exact h)
  · exact h.elim
def csX12_hereS : List (Nat × Nat × Nat × mj_PT) := []
theorem csX12_hereS_ok : mj_Cs mX12_here 1 csX12_hereS := mj_Cs0
def cutX12_hereS : List (Nat × List Bool) := []
set_option maxRecDepth 100000 in
set_option maxHeartbeats 4000000 in
theorem inX12_hereS {Ω : mj_Om} {l : Launch} {d : Nat} {Φ : Option Value → mj_M → Prop} (hd : 1 ≤ d) (I : Nat → Nat → Int32) (J : Nat → Nat → Int64)
    (h : ((if (I 91 3) < (I 91 2) then (mj_gd (mj_inB (I 91 3) 240) (Φ (some (.int (I 92 ((I 91 3)).toNatClampNeg))) (mk I J))) else (Φ (some (.int (-1 : Int32))) (mk I J))))) :
    mj_Met Ω l false mX12_here d 0 0 [.ref 91] (mk I J) Φ := mj_entry (by decide) rfl (fun h => (by cases h)) (Nat.le_of_ble_eq_true rfl) (mj_blk (μ := mX12_here) (P := pX12_here) (cut := cutX12_hereS) (cs := csX12_hereS) dX12_here csX12_hereS_ok hd 14 0 _ h)
def tX12_hereS : mj_PT := fun as M Φ => match as with
  | [.ref this] => ((this = 91 ∧ mj_isk M) ∧ (∃ t : Nat, (∃ τ : Nat → Int32, (∃ p : Nat, ((TM M.2.2.1 t τ ∧ M.2.2.1 91 3 = nI p ∧ p ≤ 300) ∧ Φ (some (.int (sg t τ p))) M)))))
  | _ => False
theorem mnX12_hereS {Ω : mj_Om} {l : Launch} {d : Nat} {Φ : Option Value → mj_M → Prop} (hd : 1 ≤ d) (t : Nat) (τ : Nat → Int32) (p : Nat) (I : Nat → Nat → Int32) (J : Nat → Nat → Int64) (hp : TM I t τ ∧ I 91 3 = nI p ∧ p ≤ 300) (h : Φ (some (.int (sg t τ p))) (mk I J)) : mj_Met Ω l false mX12_here d 0 0 [.ref 91] (mk I J) Φ := by
  refine inX12_hereS hd I J ?_
  obtain ⟨⟨hx, h1, h2⟩, h3, h4⟩ := hp
  have ht := hx.1
  rw [h3, h1]
  by_cases q : p < t
  · rw [if_pos (nlt q (by omega))]
    simp (disch := omega) only [jn_in, jn_cl, gd_dec]
    rw [h2 p q, ← sg_lt (τ := τ) q]
    exact h
  · rw [if_neg (nnl (a := p) (b := t) (by omega) (by omega))]
    rw [sg_ge q] at h
    exact h
theorem sdX12_hereS : mj_Sd mX12_here 1 tX12_hereS := by
  intro Ω l d hd as M Φ h
  unfold tX12_hereS at h
  split at h
  · rename_i z_this
    obtain ⟨⟨rfl, hM⟩, t, τ, p, hp, h⟩ := h
    rw [mj_isk_of hM]
    exact mnX12_hereS hd t τ p _ _ hp (by
      rw [mj_isk_of hM] at h
      exact h)
  · exact h.elim
def csX8_isDigitS : List (Nat × Nat × Nat × mj_PT) := []
theorem csX8_isDigitS_ok : mj_Cs mX8_isDigit 1 csX8_isDigitS := mj_Cs0
def cutX8_isDigitS : List (Nat × List Bool) := []
set_option maxRecDepth 100000 in
set_option maxHeartbeats 4000000 in
theorem inX8_isDigitS {Ω : mj_Om} {l : Launch} {d : Nat} {Φ : Option Value → mj_M → Prop} (hd : 1 ≤ d) (c : Int32) (I : Nat → Nat → Int32) (J : Nat → Nat → Int64)
    (h : ((if c < (48 : Int32) then (Φ (some (.int (0 : Int32))) (mk I J)) else (if (57 : Int32) < c then (Φ (some (.int (0 : Int32))) (mk I J)) else (Φ (some (.int (1 : Int32))) (mk I J)))))) :
    mj_Met Ω l false mX8_isDigit d 0 0 [.int c] (mk I J) Φ := mj_entry (by decide) rfl (fun h => (by cases h)) (Nat.le_of_ble_eq_true rfl) (mj_blk (μ := mX8_isDigit) (P := pX8_isDigit) (cut := cutX8_isDigitS) (cs := csX8_isDigitS) dX8_isDigit csX8_isDigitS_ok hd 11 0 _ h)
def tX8_isDigitS : mj_PT := fun as M Φ => match as with
  | [.int c] => ((mj_isk M) ∧ Φ (some (.int (b2i (isD c)))) M)
  | _ => False
theorem mnX8_isDigitS {Ω : mj_Om} {l : Launch} {d : Nat} {Φ : Option Value → mj_M → Prop} (hd : 1 ≤ d) (c : Int32) (I : Nat → Nat → Int32) (J : Nat → Nat → Int64) (h : Φ (some (.int (b2i (isD c)))) (mk I J)) : mj_Met Ω l false mX8_isDigit d 0 0 [.int c] (mk I J) Φ := by
  refine inX8_isDigitS hd c I J ?_
  have h1 : isD c → Φ (some (.int 1)) (mk I J) := fun q => by rw [b2i_1 q] at h; exact h
  have h0 : ¬ isD c → Φ (some (.int 0)) (mk I J) := fun q => by rw [b2i_0 q] at h; exact h
  unfold isD at h1 h0
  by_cases q : c < 48
  · rw [if_pos q]; rw [isD_lo] at q; exact h0 (by omega)
  · rw [if_neg q]; rw [isD_lo] at q
    by_cases q2 : 57 < c
    · rw [if_pos q2]; rw [isD_hi] at q2; exact h0 (by omega)
    · rw [if_neg q2]; rw [isD_hi] at q2; exact h1 (by omega)
theorem sdX8_isDigitS : mj_Sd mX8_isDigit 1 tX8_isDigitS := by
  intro Ω l d hd as M Φ h
  unfold tX8_isDigitS at h
  split at h
  · rename_i c
    obtain ⟨hM, h⟩ := h
    rw [mj_isk_of hM]
    exact mnX8_isDigitS hd c _ _ (by
      rw [mj_isk_of hM] at h
      exact h)
  · exact h.elim
def csX12_isDigitS : List (Nat × Nat × Nat × mj_PT) := []
theorem csX12_isDigitS_ok : mj_Cs mX12_isDigit 1 csX12_isDigitS := mj_Cs0
def cutX12_isDigitS : List (Nat × List Bool) := []
set_option maxRecDepth 100000 in
set_option maxHeartbeats 4000000 in
theorem inX12_isDigitS {Ω : mj_Om} {l : Launch} {d : Nat} {Φ : Option Value → mj_M → Prop} (hd : 1 ≤ d) (c : Int32) (I : Nat → Nat → Int32) (J : Nat → Nat → Int64)
    (h : ((if c < (48 : Int32) then (Φ (some (.int (0 : Int32))) (mk I J)) else (if (57 : Int32) < c then (Φ (some (.int (0 : Int32))) (mk I J)) else (Φ (some (.int (1 : Int32))) (mk I J)))))) :
    mj_Met Ω l false mX12_isDigit d 0 0 [.int c] (mk I J) Φ := mj_entry (by decide) rfl (fun h => (by cases h)) (Nat.le_of_ble_eq_true rfl) (mj_blk (μ := mX12_isDigit) (P := pX12_isDigit) (cut := cutX12_isDigitS) (cs := csX12_isDigitS) dX12_isDigit csX12_isDigitS_ok hd 11 0 _ h)
def tX12_isDigitS : mj_PT := fun as M Φ => match as with
  | [.int c] => ((mj_isk M) ∧ Φ (some (.int (b2i (isD c)))) M)
  | _ => False
theorem mnX12_isDigitS {Ω : mj_Om} {l : Launch} {d : Nat} {Φ : Option Value → mj_M → Prop} (hd : 1 ≤ d) (c : Int32) (I : Nat → Nat → Int32) (J : Nat → Nat → Int64) (h : Φ (some (.int (b2i (isD c)))) (mk I J)) : mj_Met Ω l false mX12_isDigit d 0 0 [.int c] (mk I J) Φ := by
  refine inX12_isDigitS hd c I J ?_
  have h1 : isD c → Φ (some (.int 1)) (mk I J) := fun q => by rw [b2i_1 q] at h; exact h
  have h0 : ¬ isD c → Φ (some (.int 0)) (mk I J) := fun q => by rw [b2i_0 q] at h; exact h
  unfold isD at h1 h0
  by_cases q : c < 48
  · rw [if_pos q]; rw [isD_lo] at q; exact h0 (by omega)
  · rw [if_neg q]; rw [isD_lo] at q
    by_cases q2 : 57 < c
    · rw [if_pos q2]; rw [isD_hi] at q2; exact h0 (by omega)
    · rw [if_neg q2]; rw [isD_hi] at q2; exact h1 (by omega)
theorem sdX12_isDigitS : mj_Sd mX12_isDigit 1 tX12_isDigitS := by
  intro Ω l d hd as M Φ h
  unfold tX12_isDigitS at h
  split at h
  · rename_i c
    obtain ⟨hM, h⟩ := h
    rw [mj_isk_of hM]
    exact mnX12_isDigitS hd c _ _ (by
      rw [mj_isk_of hM] at h
      exact h)
  · exact h.elim
def bdV (I : Nat → Nat → Int32) : Int32 := if I 91 4 = -1 then I 91 3 else I 91 4
def csX12_badS : List (Nat × Nat × Nat × mj_PT) := []
theorem csX12_badS_ok : mj_Cs mX12_bad 1 csX12_badS := mj_Cs0
def cutX12_badS : List (Nat × List Bool) := []
set_option maxRecDepth 100000 in
set_option maxHeartbeats 4000000 in
theorem inX12_badS {Ω : mj_Om} {l : Launch} {d : Nat} {Φ : Option Value → mj_M → Prop} (hd : 1 ≤ d) (I : Nat → Nat → Int32) (J : Nat → Nat → Int64)
    (h : ((if (I 91 4) = (-1 : Int32) then (Φ none (mk (mj_ui I 91 4 (I 91 3)) J)) else (Φ none (mk (mj_ui I 91 4 (I 91 4)) J))))) :
    mj_Met Ω l false mX12_bad d 0 0 [.ref 91] (mk I J) Φ := mj_entry (by decide) rfl (fun h => (by cases h)) (Nat.le_of_ble_eq_true rfl) (mj_blk (μ := mX12_bad) (P := pX12_bad) (cut := cutX12_badS) (cs := csX12_badS) dX12_bad csX12_badS_ok hd 13 0 _ h)
def tX12_badS : mj_PT := fun as M Φ => match as with
  | [.ref this] => ((this = 91 ∧ mj_isk M) ∧ (∀ I1 : Nat → Nat → Int32, (I1 = mj_ui M.2.2.1 91 4 (bdV M.2.2.1)) → Φ none (M.1, M.2.1, I1, M.2.2.2)))
  | _ => False
theorem mnX12_badS {Ω : mj_Om} {l : Launch} {d : Nat} {Φ : Option Value → mj_M → Prop} (hd : 1 ≤ d) (I : Nat → Nat → Int32) (J : Nat → Nat → Int64) (h : ∀ I1 : Nat → Nat → Int32, (I1 = mj_ui I 91 4 (bdV I)) → Φ none (mk I1 J)) : mj_Met Ω l false mX12_bad d 0 0 [.ref 91] (mk I J) Φ := by
  refine inX12_badS hd I J ?_
  have h := h _ rfl
  unfold bdV at h
  by_cases q : I 91 4 = -1
  · rw [if_pos q] at h ⊢; exact h
  · rw [if_neg q] at h ⊢; exact h
theorem sdX12_badS : mj_Sd mX12_bad 1 tX12_badS := by
  intro Ω l d hd as M Φ h
  unfold tX12_badS at h
  split at h
  · rename_i z_this
    obtain ⟨⟨rfl, hM⟩, h⟩ := h
    rw [mj_isk_of hM]
    exact mnX12_badS hd _ _ (by
      rw [mj_isk_of hM] at h
      exact h)
  · exact h.elim
def csX8_nextSign : List (Nat × Nat × Nat × mj_PT) := []
theorem csX8_nextSign_ok : mj_Cs mX8_nextSign 1 csX8_nextSign := mj_Cs0
def cutX8_nextSign : List (Nat × List Bool) := [(0, [true])]
set_option maxRecDepth 100000 in
set_option maxHeartbeats 4000000 in
theorem inX8_nextSign {Ω : mj_Om} {l : Launch} {d : Nat} {Φ : Option Value → mj_M → Prop} (hd : 1 ≤ d) (I : Nat → Nat → Int32) (J : Nat → Nat → Int64)
    (h : ((mj_G Ω l false mX8_nextSign d 0 0 Φ 0 0 0 ([some (.ref 1)], [], (mk I J))))) :
    mj_Met Ω l false mX8_nextSign d 0 0 [.ref 1] (mk I J) Φ := mj_entry (by decide) rfl (fun h => (by cases h)) (Nat.le_of_ble_eq_true rfl) h
set_option maxRecDepth 100000 in
set_option maxHeartbeats 4000000 in
theorem bX8_nextSign_0 {Ω : mj_Om} {l : Launch} {d : Nat} {Φ : Option Value → mj_M → Prop} (hd : 1 ≤ d) (I : Nat → Nat → Int32) (J : Nat → Nat → Int64)
    (h : ((if (I 1 2) < (0 : Int32) then (Φ (some (.int (-1 : Int32))) (mk I J)) else (if (I 1 2) < (I 1 1) then (if (I 1 2) < (240 : Int32) then (mj_gd (mj_inB (I 1 2) 240) (if (I 2 ((I 1 2)).toNatClampNeg) = (32 : Int32) then (mj_G Ω l false mX8_nextSign d 0 0 Φ 0 0 0 ([some (.ref 1)], [], (mk (mj_ui I 1 2 ((I 1 2) + (1 : Int32))) J))) else (mj_gd (mj_inB (I 1 2) 240) (Φ (some (.int (I 2 ((I 1 2)).toNatClampNeg))) (mk I J))))) else (Φ (some (.int (-1 : Int32))) (mk I J))) else (Φ (some (.int (-1 : Int32))) (mk I J)))))) :
    mj_G Ω l false mX8_nextSign d 0 0 Φ 0 0 0 ([some (.ref 1)], [], mk I J) := mj_blk (μ := mX8_nextSign) (P := pX8_nextSign) (cut := cutX8_nextSign) (cs := csX8_nextSign) dX8_nextSign csX8_nextSign_ok hd 35 0 _ h
def tX8_nextSign : mj_PT := fun as M Φ => match as with
  | [.ref this] => ((this = 1 ∧ mj_isk M) ∧ (∃ t : Nat, (∃ τ : Nat → Int32, (∃ p : Nat, ((TC M.2.2.1 t τ ∧ M.2.2.1 1 2 = nI p ∧ p ≤ t) ∧ (∀ I1 : Nat → Nat → Int32, (I1 1 2 = nI (skp t τ p) ∧ fr rFr M.2.2.1 I1) → Φ (some (.int (nsg t τ p))) (M.1, M.2.1, I1, M.2.2.2)))))))
  | _ => False
theorem mnX8_nextSign {Ω : mj_Om} {l : Launch} {d : Nat} {Φ : Option Value → mj_M → Prop} (hd : 1 ≤ d) (t : Nat) (τ : Nat → Int32) (p : Nat) (I : Nat → Nat → Int32) (J : Nat → Nat → Int64) (hp : TC I t τ ∧ I 1 2 = nI p ∧ p ≤ t) (h : ∀ I1 : Nat → Nat → Int32, (I1 1 2 = nI (skp t τ p) ∧ fr rFr I I1) → Φ (some (.int (nsg t τ p))) (mk I1 J)) : mj_Met Ω l false mX8_nextSign d 0 0 [.ref 1] (mk I J) Φ := by
  refine inX8_nextSign hd I J ?_
  obtain ⟨h1, h2, h3⟩ := hp
  have key : ∀ (f q : Nat) (A : Nat → Nat → Int32), t - q = f → q ≤ t → A 1 2 = nI q → fr rFr I A → skp t τ q = skp t τ p → mj_G Ω l false mX8_nextSign d 0 0 Φ 0 0 0 ([some (.ref 1)], [], mk A J) := by
    intro f
    induction f with
    | zero =>
      intro q A hf hq hA hfr hs
      have hT : TC A t τ := TC_fr h1 (hfr 1 1 (by unfold rFr; omega)) (fun k => hfr 2 k (by unfold rFr; omega))
      have ht := hT.1.1
      refine bX8_nextSign_0 hd A J ?_
      rw [hA, hT.2.1]
      rw [if_neg (show ¬ nI q < 0 by rw [show (0 : Int32) = nI 0 from rfl, jn_lt (by omega) (by omega)]; omega)]
      rw [if_neg (nnl (a := q) (b := t) (by omega) (by omega))]
      have hn : ¬ sg t τ q = 32 := by rw [sg_ge (by omega)]; decide
      have h := h A ⟨by rw [← hs, skp_n hn]; exact hA, hfr⟩
      unfold nsg at h
      rw [← hs, skp_n hn, sg_ge (by omega)] at h
      exact h
    | succ f ih =>
      intro q A hf hq hA hfr hs
      have hT : TC A t τ := TC_fr h1 (hfr 1 1 (by unfold rFr; omega)) (fun k => hfr 2 k (by unfold rFr; omega))
      have ht := hT.1.1
      have hqt : q < t := by omega
      have e := sg_lt (τ := τ) hqt
      refine bX8_nextSign_0 hd A J ?_
      rw [hA, hT.2.1]
      rw [if_neg (show ¬ nI q < 0 by rw [show (0 : Int32) = nI 0 from rfl, jn_lt (by omega) (by omega)]; omega)]
      rw [if_pos (nlt hqt (by omega)), if_pos (show nI q < 240 by rw [show (240 : Int32) = nI 240 from rfl, jn_lt (by omega) (by omega)]; omega), jn_succ]
      simp (disch := omega) only [jn_in, jn_cl, gd_dec, hT.2.2 q hqt]
      by_cases hn : sg t τ q = 32
      · rw [if_pos (e.symm.trans hn)]
        exact ih (q + 1) _ (by omega) (by omega) ui_s (fr_ui hfr ⟨rfl, rfl⟩) (by rw [← skp_y hn]; exact hs)
      · rw [if_neg (fun w => hn (e.trans w))]
        try simp (disch := omega) only [jn_in, jn_cl, gd_dec, hT.2.2 q hqt]
        have h := h A ⟨by rw [← hs, skp_n hn]; exact hA, hfr⟩
        unfold nsg at h
        rw [← hs, skp_n hn, e] at h
        exact h
  exact key _ p I rfl h3 h2 fr_rf rfl
theorem sdX8_nextSign : mj_Sd mX8_nextSign 1 tX8_nextSign := by
  intro Ω l d hd as M Φ h
  unfold tX8_nextSign at h
  split at h
  · rename_i z_this
    obtain ⟨⟨rfl, hM⟩, t, τ, p, hp, h⟩ := h
    rw [mj_isk_of hM]
    exact mnX8_nextSign hd t τ p _ _ hp (by
      rw [mj_isk_of hM] at h
      exact h)
  · exact h.elim
def csX12_look : List (Nat × Nat × Nat × mj_PT) := [(112, 0, 1, mj_rcv 12 tX12_hereS)]
theorem csX12_look_ok : mj_Cs mX12_look 2 csX12_look := (mj_CsV (D' := 1) (ci := 12) (q := (RX12, TX12, 45)) sdX12_hereS (Nat.le_of_ble_eq_true rfl) fX12_here rfl rfl iX12_here vX12_here (by decide +kernel) l12_112 mj_Cs0)
def cutX12_look : List (Nat × List Bool) := [(0, [true])]
set_option maxRecDepth 100000 in
set_option maxHeartbeats 4000000 in
theorem inX12_look {Ω : mj_Om} {l : Launch} {d : Nat} {Φ : Option Value → mj_M → Prop} (hd : 2 ≤ d) (I : Nat → Nat → Int32) (J : Nat → Nat → Int64)
    (h : ((mj_G Ω l false mX12_look d 0 0 Φ 0 0 0 ([some (.ref 91)], [], (mk I J))))) :
    mj_Met Ω l false mX12_look d 0 0 [.ref 91] (mk I J) Φ := mj_entry (by decide) rfl (fun h => (by cases h)) (Nat.le_of_ble_eq_true rfl) h
set_option maxRecDepth 100000 in
set_option maxHeartbeats 4000000 in
theorem bX12_look_0 {Ω : mj_Om} {l : Launch} {d : Nat} {Φ : Option Value → mj_M → Prop} (hd : 2 ≤ d) (I : Nat → Nat → Int32) (J : Nat → Nat → Int64)
    (h : (((91 = 91 ∧ mj_isk (mk I J)) ∧ (∃ t995 : Nat, (∃ τ996 : Nat → Int32, (∃ p997 : Nat, ((TM I t995 τ996 ∧ I 91 3 = nI p997 ∧ p997 ≤ 300) ∧ (if (sg t995 τ996 p997) = (32 : Int32) then (mj_G Ω l false mX12_look d 0 0 Φ 0 0 0 ([some (.ref 91)], [], (mk (mj_ui I 91 3 ((I 91 3) + (1 : Int32))) J))) else ((91 = 91 ∧ mj_isk (mk I J)) ∧ (∃ t1000 : Nat, (∃ τ1001 : Nat → Int32, (∃ p1002 : Nat, ((TM I t1000 τ1001 ∧ I 91 3 = nI p1002 ∧ p1002 ≤ 300) ∧ (Φ (some (.int (sg t1000 τ1001 p1002))) (mk I J))))))))))))))) :
    mj_G Ω l false mX12_look d 0 0 Φ 0 0 0 ([some (.ref 91)], [], mk I J) := mj_blk (μ := mX12_look) (P := pX12_look) (cut := cutX12_look) (cs := csX12_look) dX12_look csX12_look_ok hd 15 0 _ h
def tX12_look : mj_PT := fun as M Φ => match as with
  | [.ref this] => ((this = 91 ∧ mj_isk M) ∧ (∃ t : Nat, (∃ τ : Nat → Int32, (∃ p : Nat, ((TM M.2.2.1 t τ ∧ M.2.2.1 91 3 = nI p ∧ p ≤ 300) ∧ (∀ I1 : Nat → Nat → Int32, (I1 91 3 = nI (skp t τ p) ∧ fr mFr M.2.2.1 I1) → Φ (some (.int (nsg t τ p))) (M.1, M.2.1, I1, M.2.2.2)))))))
  | _ => False
theorem mnX12_look {Ω : mj_Om} {l : Launch} {d : Nat} {Φ : Option Value → mj_M → Prop} (hd : 2 ≤ d) (t : Nat) (τ : Nat → Int32) (p : Nat) (I : Nat → Nat → Int32) (J : Nat → Nat → Int64) (hp : TM I t τ ∧ I 91 3 = nI p ∧ p ≤ 300) (h : ∀ I1 : Nat → Nat → Int32, (I1 91 3 = nI (skp t τ p) ∧ fr mFr I I1) → Φ (some (.int (nsg t τ p))) (mk I1 J)) : mj_Met Ω l false mX12_look d 0 0 [.ref 91] (mk I J) Φ := by
  refine inX12_look hd I J ?_
  obtain ⟨h1, h2, h3⟩ := hp
  have key : ∀ (f q : Nat) (A : Nat → Nat → Int32), t - q = f → q ≤ 300 → A 91 3 = nI q → fr mFr I A → skp t τ q = skp t τ p → mj_G Ω l false mX12_look d 0 0 Φ 0 0 0 ([some (.ref 91)], [], mk A J) := by
    intro f
    induction f with
    | zero =>
      intro q A hf hq hA hfr hs
      have hT : TM A t τ := TM_fr h1 (hfr 91 2 (by unfold mFr; omega)) (fun k => hfr 92 k (by unfold mFr; omega))
      have ht := hT.1.1
      refine bX12_look_0 hd A J ?_
      refine ⟨⟨by trivial, mj_isk_mk _ _⟩, t, τ, q, ⟨hT, hA, by omega⟩, ?_⟩
      have hn : ¬ sg t τ q = 32 := by rw [sg_ge (by omega)]; decide
      rw [if_neg hn]
      refine ⟨⟨by trivial, mj_isk_mk _ _⟩, t, τ, q, ⟨hT, hA, by omega⟩, ?_⟩
      have h := h A ⟨by rw [← hs, skp_n hn]; exact hA, hfr⟩
      unfold nsg at h
      rw [← hs, skp_n hn] at h
      exact h
    | succ f ih =>
      intro q A hf hq hA hfr hs
      have hT : TM A t τ := TM_fr h1 (hfr 91 2 (by unfold mFr; omega)) (fun k => hfr 92 k (by unfold mFr; omega))
      have ht := hT.1.1
      refine bX12_look_0 hd A J ?_
      refine ⟨⟨by trivial, mj_isk_mk _ _⟩, t, τ, q, ⟨hT, hA, by omega⟩, ?_⟩
      by_cases hn : sg t τ q = 32
      · rw [if_pos hn, hA, jn_succ]
        exact ih (q + 1) _ (by omega) (by omega) ui_s (fr_ui hfr ⟨rfl, rfl⟩) (by rw [← skp_y hn]; exact hs)
      · rw [if_neg hn]
        refine ⟨⟨by trivial, mj_isk_mk _ _⟩, t, τ, q, ⟨hT, hA, by omega⟩, ?_⟩
        have h := h A ⟨by rw [← hs, skp_n hn]; exact hA, hfr⟩
        unfold nsg at h
        rw [← hs, skp_n hn] at h
        exact h
  exact key _ p I rfl h3 h2 fr_rf rfl
theorem sdX12_look : mj_Sd mX12_look 2 tX12_look := by
  intro Ω l d hd as M Φ h
  unfold tX12_look at h
  split at h
  · rename_i z_this
    obtain ⟨⟨rfl, hM⟩, t, τ, p, hp, h⟩ := h
    rw [mj_isk_of hM]
    exact mnX12_look hd t τ p _ _ hp (by
      rw [mj_isk_of hM] at h
      exact h)
  · exact h.elim
/-- where take stands behind -/
def tkp (t : Nat) (τ : Nat → Int32) (p : Nat) (s : Int32) : Nat := if nsg t τ p = s then skp t τ p + 1 else skp t τ p
def csX8_take : List (Nat × Nat × Nat × mj_PT) := [(22, 0, 1, mj_rcv 8 tX8_nextSign)]
theorem csX8_take_ok : mj_Cs mX8_take 2 csX8_take := (mj_CsV (D' := 1) (ci := 8) (q := (RX8, TX8, 3)) sdX8_nextSign (Nat.le_of_ble_eq_true rfl) fX8_nextSign rfl rfl iX8_nextSign vX8_nextSign (by decide +kernel) l8_22 mj_Cs0)
def cutX8_take : List (Nat × List Bool) := []
set_option maxRecDepth 100000 in
set_option maxHeartbeats 4000000 in
theorem inX8_take {Ω : mj_Om} {l : Launch} {d : Nat} {Φ : Option Value → mj_M → Prop} (hd : 2 ≤ d) (s : Int32) (I : Nat → Nat → Int32) (J : Nat → Nat → Int64)
    (h : (((1 = 1 ∧ mj_isk (mk I J)) ∧ (∃ t1010 : Nat, (∃ τ1011 : Nat → Int32, (∃ p1012 : Nat, ((TC I t1010 τ1011 ∧ I 1 2 = nI p1012 ∧ p1012 ≤ t1010) ∧ (∀ I1013 : Nat → Nat → Int32, (I1013 1 2 = nI (skp t1010 τ1011 p1012) ∧ fr rFr I I1013) → (if (nsg t1010 τ1011 p1012) = s then (Φ (some (.int (1 : Int32))) (mk (mj_ui I1013 1 2 ((I1013 1 2) + (1 : Int32))) J)) else (Φ (some (.int (0 : Int32))) (mk I1013 J))))))))))) :
    mj_Met Ω l false mX8_take d 0 0 [.ref 1, .int s] (mk I J) Φ := mj_entry (by decide) rfl (fun h => (by cases h)) (Nat.le_of_ble_eq_true rfl) (mj_blk (μ := mX8_take) (P := pX8_take) (cut := cutX8_take) (cs := csX8_take) dX8_take csX8_take_ok hd 15 0 _ h)
def tX8_take : mj_PT := fun as M Φ => match as with
  | [.ref this, .int s] => ((this = 1 ∧ mj_isk M) ∧ (∃ t : Nat, (∃ τ : Nat → Int32, (∃ p : Nat, ((TC M.2.2.1 t τ ∧ M.2.2.1 1 2 = nI p ∧ p ≤ t) ∧ (∀ I1 : Nat → Nat → Int32, (I1 1 2 = nI (tkp t τ p s) ∧ fr rFr M.2.2.1 I1) → Φ (some (.int (b2i (nsg t τ p = s)))) (M.1, M.2.1, I1, M.2.2.2)))))))
  | _ => False
theorem mnX8_take {Ω : mj_Om} {l : Launch} {d : Nat} {Φ : Option Value → mj_M → Prop} (hd : 2 ≤ d) (s : Int32) (t : Nat) (τ : Nat → Int32) (p : Nat) (I : Nat → Nat → Int32) (J : Nat → Nat → Int64) (hp : TC I t τ ∧ I 1 2 = nI p ∧ p ≤ t) (h : ∀ I1 : Nat → Nat → Int32, (I1 1 2 = nI (tkp t τ p s) ∧ fr rFr I I1) → Φ (some (.int (b2i (nsg t τ p = s)))) (mk I1 J)) : mj_Met Ω l false mX8_take d 0 0 [.ref 1, .int s] (mk I J) Φ := by
  refine inX8_take hd s I J ?_
  refine ⟨⟨by trivial, mj_isk_mk _ _⟩, t, τ, p, hp, fun A hA => ?_⟩
  by_cases q : nsg t τ p = s
  · rw [if_pos q, hA.1, jn_succ]
    have h := h (mj_ui A 1 2 (nI (skp t τ p + 1))) ⟨by rw [ui_s]; unfold tkp; rw [if_pos q], fr_ui hA.2 ⟨rfl, rfl⟩⟩
    rw [b2i_1 q] at h
    exact h
  · rw [if_neg q]
    have h := h A ⟨by unfold tkp; rw [if_neg q]; exact hA.1, hA.2⟩
    rw [b2i_0 q] at h
    exact h
theorem sdX8_take : mj_Sd mX8_take 2 tX8_take := by
  intro Ω l d hd as M Φ h
  unfold tX8_take at h
  split at h
  · rename_i z_this s
    obtain ⟨⟨rfl, hM⟩, t, τ, p, hp, h⟩ := h
    rw [mj_isk_of hM]
    exact mnX8_take hd s t τ p _ _ hp (by
      rw [mj_isk_of hM] at h
      exact h)
  · exact h.elim
/-- digits from p on, at most f of them: the place behind, the number -/
noncomputable def nmV (t : Nat) (τ : Nat → Int32) : Nat → Nat → Nat → Nat × Nat
  | 0, p, v => (p, v)
  | f + 1, p, v => cif (isD (sg t τ p)) (nmV t τ f (p + 1) (10 * v + ((sg t τ p).toInt - 48).toNat)) (p, v)
theorem nm_step {v : Nat} {s : Int32} (h : isD s) (hv : v ≤ 100000) : nI v * 10 + s - 48 = nI (10 * v + (s.toInt - 48).toNat) := by
  unfold isD at h
  apply Int32.toInt_inj.mp
  have e1 : (nI v * 10).toInt = (10 * v : Nat) := by rw [show (10 : Int32) = nI 10 from rfl, jn_mul, Nat.mul_comm, jn_toInt (by omega)]
  have e2 : (nI v * 10 + s).toInt = (10 * v : Nat) + s.toInt := by rw [i_add (by omega), e1]
  have e48 : (48 : Int32).toInt = 48 := rfl
  rw [i_sub (by omega), e2, e48, jn_toInt (by omega)]
  omega
theorem nm_step' {v : Nat} {s : Int32} (h : isD s) (hv : v ≤ 100000) : 10 * nI v + s - 48 = nI (10 * v + (s.toInt - 48).toNat) := by rw [Int32.mul_comm]; exact nm_step h hv
theorem nmV_b {t : Nat} {τ : Nat → Int32} : ∀ f p v, p ≤ (nmV t τ f p v).1 ∧ (nmV t τ f p v).1 ≤ p + f ∧ (p ≤ t → (nmV t τ f p v).1 ≤ t) ∧ (nmV t τ f p v).2 + 1 ≤ (v + 1) * 10 ^ f := by
  intro f
  induction f with
  | zero => intro p v; exact ⟨Nat.le_refl _, Nat.le_refl _, fun h => h, by show v + 1 ≤ (v + 1) * 10 ^ 0; omega⟩
  | succ f ih =>
    intro p v
    rw [nmV]
    by_cases q : isD (sg t τ p)
    · rw [cif_t q]
      have hp : p < t := sg_ne rfl (fun w => by rw [w] at q; exact absurd q.1 (by decide))
      obtain ⟨i1, i2, i3, i4⟩ := ih (p + 1) (10 * v + ((sg t τ p).toInt - 48).toNat)
      refine ⟨by omega, by omega, fun h => i3 hp, Nat.le_trans i4 ?_⟩
      rw [Nat.pow_succ, Nat.mul_comm (10 ^ f) 10, ← Nat.mul_assoc]
      have := q.2
      exact Nat.mul_le_mul_right _ (by omega)
    · rw [cif_f q]
      refine ⟨Nat.le_refl _, by omega, fun h => h, ?_⟩
      exact Nat.le_mul_of_pos_right _ (Nat.pow_pos (by decide))
theorem nmV_s {t : Nat} {τ : Nat → Int32} {f p v : Nat} (h : isD (sg t τ p)) : nmV t τ (f + 1) p v = nmV t τ f (p + 1) (10 * v + ((sg t τ p).toInt - 48).toNat) := by rw [nmV, cif_t h]
theorem nmV_n {t : Nat} {τ : Nat → Int32} {f p v : Nat} (h : ¬ isD (sg t τ p)) : nmV t τ f p v = (p, v) := by
  cases f with
  | zero => rfl
  | succ f => rw [nmV, cif_f h]
theorem isD_lt {t : Nat} {τ : Nat → Int32} {p : Nat} (q : isD (sg t τ p)) : p < t := sg_ne rfl (fun w => by rw [w] at q; exact absurd q.1 (by decide))
/-- a number of at most m digits from p on: where it ends, or where the fault is -/
noncomputable def numR (t : Nat) (τ : Nat → Int32) (m p : Nat) : Except Nat (Nat × Nat) := cif (isD (nsg t τ p)) (cif (isD (sg t τ (nmV t τ m (skp t τ p) 0).1)) (.error (nmV t τ m (skp t τ p) 0).1) (.ok (nmV t τ m (skp t τ p) 0))) (.error (skp t τ p))
noncomputable def numA (r : Except Nat (Nat × Nat)) : Nat := match r with
  | .error e => e
  | .ok q => q.1
noncomputable def numV (r : Except Nat (Nat × Nat)) : Int32 := match r with
  | .error _ => -1
  | .ok q => nI q.2
def csX8_takeNumber : List (Nat × Nat × Nat × mj_PT) := [(22, 0, 1, mj_rcv 8 tX8_nextSign), (26, 1, 1, tX8_isDigitS), (30, 0, 1, mj_rcv 8 tX8_rawSignS)]
theorem csX8_takeNumber_ok : mj_Cs mX8_takeNumber 2 csX8_takeNumber := (mj_CsV (D' := 1) (ci := 8) (q := (RX8, TX8, 3)) sdX8_nextSign (Nat.le_of_ble_eq_true rfl) fX8_nextSign rfl rfl iX8_nextSign vX8_nextSign (by decide +kernel) l8_22 (mj_CsS (D' := 1) sdX8_isDigitS (Nat.le_of_ble_eq_true rfl) fX8_isDigit sX8_isDigit (by decide +kernel) l8_26 (mj_CsV (D' := 1) (ci := 8) (q := (RX8, TX8, 3)) sdX8_rawSignS (Nat.le_of_ble_eq_true rfl) fX8_rawSign rfl rfl iX8_rawSign vX8_rawSign (by decide +kernel) l8_30 mj_Cs0)))
def cutX8_takeNumber : List (Nat × List Bool) := [(16, [true, true, true, true]), (60, [true, true, true, true])]
set_option maxRecDepth 100000 in
set_option maxHeartbeats 4000000 in
theorem inX8_takeNumber {Ω : mj_Om} {l : Launch} {d : Nat} {Φ : Option Value → mj_M → Prop} (hd : 2 ≤ d) (m_ : Int32) (I : Nat → Nat → Int32) (J : Nat → Nat → Int64)
    (h : (((1 = 1 ∧ mj_isk (mk I J)) ∧ (∃ t1041 : Nat, (∃ τ1042 : Nat → Int32, (∃ p1043 : Nat, ((TC I t1041 τ1042 ∧ I 1 2 = nI p1043 ∧ p1043 ≤ t1041) ∧ (∀ I1044 : Nat → Nat → Int32, (I1044 1 2 = nI (skp t1041 τ1042 p1043) ∧ fr rFr I I1044) → ((mj_isk (mk I1044 J)) ∧ (if (b2i (isD (nsg t1041 τ1042 p1043))) = (0 : Int32) then (Φ (some (.int (-1 : Int32))) (mk I1044 J)) else (mj_G Ω l false mX8_takeNumber d 0 0 Φ 0 0 16 ([some (.ref 1), some (.int m_), some (.int (0 : Int32)), some (.int (0 : Int32))], [], (mk I1044 J))))))))))))) :
    mj_Met Ω l false mX8_takeNumber d 0 0 [.ref 1, .int m_] (mk I J) Φ := mj_entry (by decide) rfl (fun h => (by cases h)) (Nat.le_of_ble_eq_true rfl) (mj_blk (μ := mX8_takeNumber) (P := pX8_takeNumber) (cut := cutX8_takeNumber) (cs := csX8_takeNumber) dX8_takeNumber csX8_takeNumber_ok hd 43 0 _ h)
set_option maxRecDepth 100000 in
set_option maxHeartbeats 4000000 in
theorem bX8_takeNumber_16 {Ω : mj_Om} {l : Launch} {d : Nat} {Φ : Option Value → mj_M → Prop} (hd : 2 ≤ d) (x1 : Int32) (x2 : Int32) (x3 : Int32) (I : Nat → Nat → Int32) (J : Nat → Nat → Int64)
    (h : ((if x3 < x1 then ((1 = 1 ∧ mj_isk (mk I J)) ∧ (∃ t1048 : Nat, (∃ τ1049 : Nat → Int32, (∃ p1050 : Nat, ((TC I t1048 τ1049 ∧ I 1 2 = nI p1050 ∧ p1050 ≤ 300) ∧ ((mj_isk (mk I J)) ∧ (if (b2i (isD (sg t1048 τ1049 p1050))) = (0 : Int32) then (mj_G Ω l false mX8_takeNumber d 0 0 Φ 0 0 60 ([some (.ref 1), some (.int x1), some (.int x2), some (.int x3)], [], (mk I J))) else ((1 = 1 ∧ mj_isk (mk I J)) ∧ (∃ t1055 : Nat, (∃ τ1056 : Nat → Int32, (∃ p1057 : Nat, ((TC I t1055 τ1056 ∧ I 1 2 = nI p1057 ∧ p1057 ≤ 300) ∧ (mj_G Ω l false mX8_takeNumber d 0 0 Φ 0 0 16 ([some (.ref 1), some (.int x1), some (.int (((x2 * (10 : Int32)) + (sg t1055 τ1056 p1057)) - (48 : Int32))), some (.int (x3 + (1 : Int32)))], [], (mk (mj_ui I 1 2 ((I 1 2) + (1 : Int32))) J))))))))))))))) else (mj_G Ω l false mX8_takeNumber d 0 0 Φ 0 0 60 ([some (.ref 1), some (.int x1), some (.int x2), some (.int x3)], [], (mk I J)))))) :
    mj_G Ω l false mX8_takeNumber d 0 0 Φ 0 0 16 ([some (.ref 1), some (.int x1), some (.int x2), some (.int x3)], [], mk I J) := mj_blk (μ := mX8_takeNumber) (P := pX8_takeNumber) (cut := cutX8_takeNumber) (cs := csX8_takeNumber) dX8_takeNumber csX8_takeNumber_ok hd 43 16 _ h
set_option maxRecDepth 100000 in
set_option maxHeartbeats 4000000 in
theorem bX8_takeNumber_60 {Ω : mj_Om} {l : Launch} {d : Nat} {Φ : Option Value → mj_M → Prop} (hd : 2 ≤ d) (x1 : Int32) (x2 : Int32) (x3 : Int32) (I : Nat → Nat → Int32) (J : Nat → Nat → Int64)
    (h : (((1 = 1 ∧ mj_isk (mk I J)) ∧ (∃ t1060 : Nat, (∃ τ1061 : Nat → Int32, (∃ p1062 : Nat, ((TC I t1060 τ1061 ∧ I 1 2 = nI p1062 ∧ p1062 ≤ 300) ∧ ((mj_isk (mk I J)) ∧ (if (b2i (isD (sg t1060 τ1061 p1062))) = (0 : Int32) then (Φ (some (.int x2)) (mk I J)) else (Φ (some (.int (-1 : Int32))) (mk I J))))))))))) :
    mj_G Ω l false mX8_takeNumber d 0 0 Φ 0 0 60 ([some (.ref 1), some (.int x1), some (.int x2), some (.int x3)], [], mk I J) := mj_blk (μ := mX8_takeNumber) (P := pX8_takeNumber) (cut := cutX8_takeNumber) (cs := csX8_takeNumber) dX8_takeNumber csX8_takeNumber_ok hd 43 60 _ h
def tX8_takeNumber : mj_PT := fun as M Φ => match as with
  | [.ref this, .int m_] => ((this = 1 ∧ mj_isk M) ∧ (∃ m : Nat, m_ = nI m ∧ (∃ t : Nat, (∃ τ : Nat → Int32, (∃ p : Nat, ((TC M.2.2.1 t τ ∧ M.2.2.1 1 2 = nI p ∧ p ≤ t ∧ m ≤ 4) ∧ (∀ I1 : Nat → Nat → Int32, (I1 1 2 = nI (numA (numR t τ m p)) ∧ fr rFr M.2.2.1 I1) → Φ (some (.int (numV (numR t τ m p)))) (M.1, M.2.1, I1, M.2.2.2))))))))
  | _ => False
set_option maxHeartbeats 4000000 in
theorem mnX8_takeNumber {Ω : mj_Om} {l : Launch} {d : Nat} {Φ : Option Value → mj_M → Prop} (hd : 2 ≤ d) (m : Nat) (t : Nat) (τ : Nat → Int32) (p : Nat) (I : Nat → Nat → Int32) (J : Nat → Nat → Int64) (hp : TC I t τ ∧ I 1 2 = nI p ∧ p ≤ t ∧ m ≤ 4) (h : ∀ I1 : Nat → Nat → Int32, (I1 1 2 = nI (numA (numR t τ m p)) ∧ fr rFr I I1) → Φ (some (.int (numV (numR t τ m p)))) (mk I1 J)) : mj_Met Ω l false mX8_takeNumber d 0 0 [.ref 1, .int (nI m)] (mk I J) Φ := by
  refine inX8_takeNumber hd (nI m) I J ?_
  obtain ⟨hT, h2, h3, hm⟩ := hp
  have htt := hT.1.1
  have hTA : ∀ A, fr rFr I A → TC A t τ := fun A hfr => TC_fr hT (hfr 1 1 (by unfold rFr; omega)) (fun k => hfr 2 k (by unfold rFr; omega))
  have hq := skp_le (τ := τ) h3
  refine ⟨⟨by trivial, mj_isk_mk _ _⟩, t, τ, p, ⟨hT, h2, h3⟩, fun A hA => ?_⟩
  refine ⟨mj_isk_mk _ _, ?_⟩
  by_cases q : isD (nsg t τ p)
  case neg =>
    rw [if_pos (by rw [b2i_e0]; exact q)]
    have h := h A ⟨by unfold numR; rw [cif_f q]; exact hA.1, hA.2⟩
    unfold numR at h
    rw [cif_f q] at h
    exact h
  rw [if_neg (by rw [b2i_e0]; exact fun w => w q)]
  have fin : ∀ (x3 : Int32) (B : Nat → Nat → Int32), B 1 2 = nI (nmV t τ m (skp t τ p) 0).1 → fr rFr I B → mj_G Ω l false mX8_takeNumber d 0 0 Φ 0 0 60 ([some (.ref 1), some (.int (nI m)), some (.int (nI (nmV t τ m (skp t τ p) 0).2)), some (.int x3)], [], mk B J) := by
    intro x3 B hB hfr
    obtain ⟨b1, b2, b3, b4⟩ := nmV_b (t := t) (τ := τ) m (skp t τ p) 0
    have b5 := b3 hq
    refine bX8_takeNumber_60 hd (nI m) _ x3 B J ?_
    refine ⟨⟨by trivial, mj_isk_mk _ _⟩, t, τ, (nmV t τ m (skp t τ p) 0).1, ⟨hTA B hfr, hB, by omega⟩, mj_isk_mk _ _, ?_⟩
    unfold numR at h
    rw [cif_t q] at h
    by_cases w : isD (sg t τ (nmV t τ m (skp t τ p) 0).1)
    · rw [cif_t w] at h
      rw [if_neg (by rw [b2i_e0]; exact fun z => z w)]
      exact h B ⟨hB, hfr⟩
    · rw [cif_f w] at h
      rw [if_pos (by rw [b2i_e0]; exact w)]
      exact h B ⟨hB, hfr⟩
  have key : ∀ (f j q v : Nat) (B : Nat → Nat → Int32), j + f = m → q ≤ t → v + 1 ≤ 10 ^ j → B 1 2 = nI q → fr rFr I B → nmV t τ f q v = nmV t τ m (skp t τ p) 0 → mj_G Ω l false mX8_takeNumber d 0 0 Φ 0 0 16 ([some (.ref 1), some (.int (nI m)), some (.int (nI v)), some (.int (nI j))], [], mk B J) := by
    intro f
    induction f with
    | zero =>
      intro j q v B hj hqt hv hB hfr he
      refine bX8_takeNumber_16 hd (nI m) (nI v) (nI j) B J ?_
      rw [if_neg (nnl (a := j) (b := m) (by omega) (by omega))]
      have e1 : q = (nmV t τ m (skp t τ p) 0).1 := by rw [← he]; rfl
      have e2 : v = (nmV t τ m (skp t τ p) 0).2 := by rw [← he]; rfl
      rw [e2]
      exact fin _ B (by rw [← e1]; exact hB) hfr
    | succ f ih =>
      intro j q v B hj hqt hv hB hfr he
      refine bX8_takeNumber_16 hd (nI m) (nI v) (nI j) B J ?_
      rw [if_pos (nlt (a := j) (b := m) (by omega) (by omega))]
      refine ⟨⟨by trivial, mj_isk_mk _ _⟩, t, τ, q, ⟨hTA B hfr, hB, by omega⟩, mj_isk_mk _ _, ?_⟩
      by_cases w : isD (sg t τ q)
      · rw [if_neg (by rw [b2i_e0]; exact fun z => z w)]
        refine ⟨⟨by trivial, mj_isk_mk _ _⟩, t, τ, q, ⟨hTA B hfr, hB, by omega⟩, ?_⟩
        have hj4 : 10 ^ j ≤ 10 ^ 4 := Nat.pow_le_pow_right (by decide) (by omega)
        have hw := w.2
        rw [hB, jn_succ, jn_succ, nm_step w (by omega)]
        refine ih (j + 1) (q + 1) _ _ (by omega) (isD_lt w) ?_ ui_s (fr_ui hfr ⟨rfl, rfl⟩) (by rw [← nmV_s w]; exact he)
        rw [Nat.pow_succ]; omega
      · rw [if_pos (by rw [b2i_e0]; exact w)]
        rw [nmV_n w] at he
        have e1 : q = (nmV t τ m (skp t τ p) 0).1 := by rw [← he]
        have e2 : v = (nmV t τ m (skp t τ p) 0).2 := by rw [← he]
        rw [e2]
        exact fin _ B (by rw [← e1]; exact hB) hfr
  exact key m 0 (skp t τ p) 0 A (by omega) hq (by decide) hA.1 hA.2 rfl
theorem sdX8_takeNumber : mj_Sd mX8_takeNumber 2 tX8_takeNumber := by
  intro Ω l d hd as M Φ h
  unfold tX8_takeNumber at h
  split at h
  · rename_i z_this m_
    obtain ⟨⟨rfl, hM⟩, m, rfl, t, τ, p, hp, h⟩ := h
    rw [mj_isk_of hM]
    exact mnX8_takeNumber hd m t τ p _ _ hp (by
      rw [mj_isk_of hM] at h
      exact h)
  · exact h.elim
