/-! ===== which of some letters a sign is: String.indexOf (by program, wip/whole/p75.py) ===== -/
def ixF (l : List Int32) (s : Int32) : Nat → Nat → Int32
  | 0, _ => -1
  | f + 1, i => if l.getD i 0 = s then nI i else ixF l s f (i + 1)
def itL (s : Int32) : Int32 := if s = 119 then 0 else if s = 97 then 1 else if s = 101 then 2 else if s = 117 then 3 else if s = 100 then 4 else if s = 115 then 5 else if s = 102 then 6 else -1
def itB (s : Int32) : Int32 := if s = 120 then 0 else if s = 121 then 1 else if s = 118 then 2 else if s = 109 then 3 else if s = 122 then 4 else if s = 114 then 5 else -1
theorem i2c_256 : ∀ k, k < 256 → ((nI k).toUInt32 % 65536).toInt32 = nI k := by decide +kernel
set_option maxRecDepth 100000 in
theorem ix_L : ∀ k, k < 256 → 0 < k → ixF [98, 116, 118, 120, 99, 119, 108] ((nI k).toInt8.toInt32) 7 0 = ltr (nI k) := by decide +kernel
set_option maxRecDepth 100000 in
theorem ix_W : ∀ k, k < 256 → 0 < k → ixF [119, 97, 101, 117, 100, 115, 102] ((nI k).toInt8.toInt32) 7 0 = itL (nI k) := by decide +kernel
set_option maxRecDepth 100000 in
theorem ix_B : ∀ k, k < 256 → 0 < k → ixF [120, 121, 118, 109, 122, 114] ((nI k).toInt8.toInt32) 6 0 = itB (nI k) := by decide +kernel
def csJ1_indexOfChar_4cfefL : List (Nat × Nat × Nat × mj_PT) := []
theorem csJ1_indexOfChar_4cfefL_ok : mj_Cs mJ1_indexOfChar_4cfef 1 csJ1_indexOfChar_4cfefL := mj_Cs0
def cutJ1_indexOfChar_4cfefL : List (Nat × List Bool) := [(7, [true, true, true, true, true, true])]
set_option maxRecDepth 100000 in
set_option maxHeartbeats 4000000 in
theorem inJ1_indexOfChar_4cfefL {Ω : mj_Om} {l : Launch} {d : Nat} {Φ : Option Value → mj_M → Prop} (hd : 1 ≤ d) (c : Int32) (f : Int32) (m : Int32) (I : Nat → Nat → Int32) (J : Nat → Nat → Int64)
    (h : ((mj_G Ω l false mJ1_indexOfChar_4cfef d 0 0 Φ 0 0 7 ([some (.ref 1022), some (.int c), some (.int f), some (.int m), some (.int ((c).toInt8.toInt32)), some (.int f)], [], (mk I J))))) :
    mj_Met Ω l false mJ1_indexOfChar_4cfef d 0 0 [.ref 1022, .int c, .int f, .int m] (mk I J) Φ := mj_entry (by decide) rfl (fun h => (by cases h)) (Nat.le_of_ble_eq_true rfl) (mj_blk (μ := mJ1_indexOfChar_4cfef) (P := pJ1_indexOfChar_4cfef) (cut := cutJ1_indexOfChar_4cfefL) (cs := csJ1_indexOfChar_4cfefL) dJ1_indexOfChar_4cfef csJ1_indexOfChar_4cfefL_ok hd 20 0 _ h)
set_option maxRecDepth 100000 in
set_option maxHeartbeats 4000000 in
theorem bJ1_indexOfChar_4cfefL_7 {Ω : mj_Om} {l : Launch} {d : Nat} {Φ : Option Value → mj_M → Prop} (hd : 1 ≤ d) (x1 : Int32) (x2 : Int32) (x3 : Int32) (x4 : Int32) (x5 : Int32) (I : Nat → Nat → Int32) (J : Nat → Nat → Int64)
    (h : ((if x5 < x3 then (mj_gd (mj_inB x5 7) (if (([98, 116, 118, 120, 99, 119, 108] : List Int32).getD (x5).toNatClampNeg 0) = x4 then (Φ (some (.int x5)) (mk I J)) else (mj_G Ω l false mJ1_indexOfChar_4cfef d 0 0 Φ 0 0 7 ([some (.ref 1022), some (.int x1), some (.int x2), some (.int x3), some (.int x4), some (.int (x5 + (1 : Int32)))], [], (mk I J))))) else (Φ (some (.int (-1 : Int32))) (mk I J))))) :
    mj_G Ω l false mJ1_indexOfChar_4cfef d 0 0 Φ 0 0 7 ([some (.ref 1022), some (.int x1), some (.int x2), some (.int x3), some (.int x4), some (.int x5)], [], mk I J) := mj_blk (μ := mJ1_indexOfChar_4cfef) (P := pJ1_indexOfChar_4cfef) (cut := cutJ1_indexOfChar_4cfefL) (cs := csJ1_indexOfChar_4cfefL) dJ1_indexOfChar_4cfef csJ1_indexOfChar_4cfefL_ok hd 20 7 _ h
def tJ1_indexOfChar_4cfefL : mj_PT := fun as M Φ => match as with
  | [.ref a_, .int c, .int f, .int m] => ((a_ = 1022 ∧ mj_isk M) ∧ ((f = 0 ∧ m = 7) ∧ Φ (some (.int (ixF [98, 116, 118, 120, 99, 119, 108] ((c).toInt8.toInt32) 7 0))) M))
  | _ => False
set_option maxHeartbeats 4000000 in
theorem mnJ1_indexOfChar_4cfefL {Ω : mj_Om} {l : Launch} {d : Nat} {Φ : Option Value → mj_M → Prop} (hd : 1 ≤ d) (c : Int32) (f : Int32) (m : Int32) (I : Nat → Nat → Int32) (J : Nat → Nat → Int64) (hp : f = 0 ∧ m = 7) (h : Φ (some (.int (ixF [98, 116, 118, 120, 99, 119, 108] ((c).toInt8.toInt32) 7 0))) (mk I J)) : mj_Met Ω l false mJ1_indexOfChar_4cfef d 0 0 [.ref 1022, .int c, .int f, .int m] (mk I J) Φ := by
  refine inJ1_indexOfChar_4cfefL hd c f m I J ?_
  obtain ⟨rfl, rfl⟩ := hp
  have key : ∀ (f i : Nat), i + f = 7 → (Φ (some (.int (ixF [98, 116, 118, 120, 99, 119, 108] (c.toInt8.toInt32) f i))) (mk I J)) → mj_G Ω l false mJ1_indexOfChar_4cfef d 0 0 Φ 0 0 7 ([some (.ref 1022), some (.int c), some (.int 0), some (.int 7), some (.int (c.toInt8.toInt32)), some (.int (nI i))], [], mk I J) := by
    intro f
    induction f with
    | zero =>
      intro i hi hh
      refine bJ1_indexOfChar_4cfefL_7 hd c 0 7 (c.toInt8.toInt32) (nI i) I J ?_
      rw [show (7 : Int32) = nI 7 from rfl, if_neg (nnl (a := i) (b := 7) (by omega) (by omega))]
      exact hh
    | succ f ih =>
      intro i hi hh
      refine bJ1_indexOfChar_4cfefL_7 hd c 0 7 (c.toInt8.toInt32) (nI i) I J ?_
      rw [show (7 : Int32) = nI 7 from rfl, if_pos (nlt (a := i) (b := 7) (by omega) (by omega))]
      simp (disch := omega) only [jn_in, jn_cl, gd_dec, jn_succ]
      rw [ixF] at hh
      by_cases q : ([98, 116, 118, 120, 99, 119, 108] : List Int32).getD i 0 = c.toInt8.toInt32
      · rw [if_pos q] at hh ⊢; exact hh
      · rw [if_neg q] at hh ⊢; exact ih (i + 1) (by omega) hh
  exact key 7 0 (by omega) h
theorem sdJ1_indexOfChar_4cfefL : mj_Sd mJ1_indexOfChar_4cfef 1 tJ1_indexOfChar_4cfefL := by
  intro Ω l d hd as M Φ h
  unfold tJ1_indexOfChar_4cfefL at h
  split at h
  · rename_i z_a c f m
    obtain ⟨⟨rfl, hM⟩, hp, h⟩ := h
    rw [mj_isk_of hM]
    exact mnJ1_indexOfChar_4cfefL hd c f m _ _ hp (by
      rw [mj_isk_of hM] at h
      exact h)
  · exact h.elim
def csJ1_indexOf_4cfefL : List (Nat × Nat × Nat × mj_PT) := [(38, 1, 2, mj_ptmn), (88, 1, 1, tJ1_canEncode_9a6ad), (92, 1, 2, mj_ptmx), (95, 1, 4, tJ1_indexOfChar_4cfefL)]
theorem csJ1_indexOf_4cfefL_ok : mj_Cs mJ1_indexOf_4cfef 2 csJ1_indexOf_4cfefL := (mj_Csmn (Nat.le_of_ble_eq_true rfl) l15_38 (mj_CsS (D' := 1) sdJ1_canEncode_9a6ad (Nat.le_of_ble_eq_true rfl) fJ1_canEncode_9a6ad sJ1_canEncode_9a6ad (by decide +kernel) l15_88 (mj_Csmx (Nat.le_of_ble_eq_true rfl) l15_92 (mj_CsS (D' := 1) sdJ1_indexOfChar_4cfefL (Nat.le_of_ble_eq_true rfl) fJ1_indexOfChar_4cfef sJ1_indexOfChar_4cfef (by decide +kernel) l15_95 mj_Cs0))))
def cutJ1_indexOf_4cfefL : List (Nat × List Bool) := []
set_option maxRecDepth 100000 in
set_option maxHeartbeats 4000000 in
theorem inJ1_indexOf_4cfefL {Ω : mj_Om} {l : Launch} {d : Nat} {Φ : Option Value → mj_M → Prop} (hd : 2 ≤ d) (c : Int32) (f : Int32) (m : Int32) (I : Nat → Nat → Int32) (J : Nat → Nat → Int64)
    (h : ((if c < (0 : Int32) then (Φ (some (.int (-1 : Int32))) (mk I J)) else (if (255 : Int32) < c then (Φ (some (.int (-1 : Int32))) (mk I J)) else (if (if f < (0 : Int32) then (0 : Int32) else f) < (if (7 : Int32) < m then (7 : Int32) else m) then ((1022 = 1022 ∧ mj_isk (mk I J)) ∧ (((if f < (0 : Int32) then (0 : Int32) else f) = 0 ∧ (if (7 : Int32) < m then (7 : Int32) else m) = 7) ∧ (Φ (some (.int (ixF [98, 116, 118, 120, 99, 119, 108] ((c).toInt8.toInt32) 7 0))) (mk I J)))) else (Φ (some (.int (-1 : Int32))) (mk I J))))))) :
    mj_Met Ω l false mJ1_indexOf_4cfef d 0 0 [.ref 1022, .int c, .int f, .int m] (mk I J) Φ := mj_entry (by decide) rfl (fun h => (by cases h)) (Nat.le_of_ble_eq_true rfl) (mj_blk (μ := mJ1_indexOf_4cfef) (P := pJ1_indexOf_4cfef) (cut := cutJ1_indexOf_4cfefL) (cs := csJ1_indexOf_4cfefL) dJ1_indexOf_4cfef csJ1_indexOf_4cfefL_ok hd 26 0 _ h)
def tJ1_indexOf_4cfefL : mj_PT := fun as M Φ => match as with
  | [.ref a_, .int c, .int f, .int m] => ((a_ = 1022 ∧ mj_isk M) ∧ ((f = 0 ∧ m = 7 ∧ 0 ≤ (c).toInt ∧ (c).toInt ≤ 255) ∧ Φ (some (.int (ixF [98, 116, 118, 120, 99, 119, 108] ((c).toInt8.toInt32) 7 0))) M))
  | _ => False
theorem mnJ1_indexOf_4cfefL {Ω : mj_Om} {l : Launch} {d : Nat} {Φ : Option Value → mj_M → Prop} (hd : 2 ≤ d) (c : Int32) (f : Int32) (m : Int32) (I : Nat → Nat → Int32) (J : Nat → Nat → Int64) (hp : f = 0 ∧ m = 7 ∧ 0 ≤ (c).toInt ∧ (c).toInt ≤ 255) (h : Φ (some (.int (ixF [98, 116, 118, 120, 99, 119, 108] ((c).toInt8.toInt32) 7 0))) (mk I J)) : mj_Met Ω l false mJ1_indexOf_4cfef d 0 0 [.ref 1022, .int c, .int f, .int m] (mk I J) Φ := by
  refine inJ1_indexOf_4cfefL hd c f m I J ?_
  obtain ⟨rfl, rfl, h1, h2⟩ := hp
  rw [if_neg (show ¬ c < 0 by rw [Int32.lt_iff_toInt_lt, i_0]; omega), if_neg (show ¬ (255 : Int32) < c by rw [Int32.lt_iff_toInt_lt, show (255 : Int32).toInt = 255 from rfl]; omega)]
  have e1 : (if (0 : Int32) < 0 then (0 : Int32) else 0) = 0 := by decide
  have e2 : (if (7 : Int32) < 7 then (7 : Int32) else 7) = 7 := by decide
  rw [e1, e2, if_pos (by decide)]
  exact ⟨⟨by trivial, mj_isk_mk _ _⟩, ⟨rfl, rfl⟩, h⟩
theorem sdJ1_indexOf_4cfefL : mj_Sd mJ1_indexOf_4cfef 2 tJ1_indexOf_4cfefL := by
  intro Ω l d hd as M Φ h
  unfold tJ1_indexOf_4cfefL at h
  split at h
  · rename_i z_a c f m
    obtain ⟨⟨rfl, hM⟩, hp, h⟩ := h
    rw [mj_isk_of hM]
    exact mnJ1_indexOf_4cfefL hd c f m _ _ hp (by
      rw [mj_isk_of hM] at h
      exact h)
  · exact h.elim
def csJ0_indexOf_7cf53L : List (Nat × Nat × Nat × mj_PT) := [(492, 0, 1, mj_rcS tJ0_isLatin1_aae02), (505, 0, 1, mj_rcS tJ0_length_8abf5), (637, 1, 4, tJ1_indexOf_4cfefL)]
theorem csJ0_indexOf_7cf53L_ok : mj_Cs mJ0_indexOf_7cf53 3 csJ0_indexOf_7cf53L := (mj_CsVS (D' := 1) sdJ0_isLatin1_aae02 (Nat.le_of_ble_eq_true rfl) fJ0_isLatin1_aae02 rfl iJ0_isLatin1_aae02 vJ0_isLatin1_aae02 (by decide +kernel) l14_492 (mj_CsVS (D' := 2) sdJ0_length_8abf5 (Nat.le_of_ble_eq_true rfl) fJ0_length_8abf5 rfl iJ0_length_8abf5 vJ0_length_8abf5 (by decide +kernel) l14_505 (mj_CsS (D' := 2) sdJ1_indexOf_4cfefL (Nat.le_of_ble_eq_true rfl) fJ1_indexOf_4cfef sJ1_indexOf_4cfef (by decide +kernel) l14_637 mj_Cs0)))
def cutJ0_indexOf_7cf53L : List (Nat × List Bool) := []
set_option maxRecDepth 100000 in
set_option maxHeartbeats 4000000 in
theorem inJ0_indexOf_7cf53L {Ω : mj_Om} {l : Launch} {d : Nat} {Φ : Option Value → mj_M → Prop} (hd : 3 ≤ d) (c : Int32) (f : Int32) (I : Nat → Nat → Int32) (J : Nat → Nat → Int64)
    (h : (((1022 = 1022 ∧ mj_isk (mk I J)) ∧ ((f = 0 ∧ ((7 : Int32) >>> ((0 : Int32) &&& 31)) = 7 ∧ 0 ≤ (c).toInt ∧ (c).toInt ≤ 255) ∧ (Φ (some (.int (ixF [98, 116, 118, 120, 99, 119, 108] ((c).toInt8.toInt32) 7 0))) (mk I J)))))) :
    mj_Met Ω l false mJ0_indexOf_7cf53 d 0 0 [.ref 1012, .int c, .int f] (mk I J) Φ := mj_entry (by decide) rfl (fun h => (by cases h)) (Nat.le_of_ble_eq_true rfl) (mj_blk (μ := mJ0_indexOf_7cf53) (P := pJ0_indexOf_7cf53) (cut := cutJ0_indexOf_7cf53L) (cs := csJ0_indexOf_7cf53L) dJ0_indexOf_7cf53 csJ0_indexOf_7cf53L_ok hd 20 0 _ h)
def tJ0_indexOf_7cf53L : mj_PT := fun as M Φ => match as with
  | [.ref this, .int c, .int f] => ((this = 1012 ∧ mj_isk M) ∧ ((f = 0 ∧ 0 ≤ (c).toInt ∧ (c).toInt ≤ 255) ∧ Φ (some (.int (ixF [98, 116, 118, 120, 99, 119, 108] ((c).toInt8.toInt32) 7 0))) M))
  | _ => False
theorem mnJ0_indexOf_7cf53L {Ω : mj_Om} {l : Launch} {d : Nat} {Φ : Option Value → mj_M → Prop} (hd : 3 ≤ d) (c : Int32) (f : Int32) (I : Nat → Nat → Int32) (J : Nat → Nat → Int64) (hp : f = 0 ∧ 0 ≤ (c).toInt ∧ (c).toInt ≤ 255) (h : Φ (some (.int (ixF [98, 116, 118, 120, 99, 119, 108] ((c).toInt8.toInt32) 7 0))) (mk I J)) : mj_Met Ω l false mJ0_indexOf_7cf53 d 0 0 [.ref 1012, .int c, .int f] (mk I J) Φ := by
  refine inJ0_indexOf_7cf53L hd c f I J ?_
  obtain ⟨rfl, h1, h2⟩ := hp
  exact ⟨⟨by trivial, mj_isk_mk _ _⟩, ⟨rfl, by decide, h1, h2⟩, h⟩
theorem sdJ0_indexOf_7cf53L : mj_Sd mJ0_indexOf_7cf53 3 tJ0_indexOf_7cf53L := by
  intro Ω l d hd as M Φ h
  unfold tJ0_indexOf_7cf53L at h
  split at h
  · rename_i z_this c f
    obtain ⟨⟨rfl, hM⟩, hp, h⟩ := h
    rw [mj_isk_of hM]
    exact mnJ0_indexOf_7cf53L hd c f _ _ hp (by
      rw [mj_isk_of hM] at h
      exact h)
  · exact h.elim
def csJ0_indexOf_0f7a4L : List (Nat × Nat × Nat × mj_PT) := [(633, 0, 3, mj_rcS tJ0_indexOf_7cf53L)]
theorem csJ0_indexOf_0f7a4L_ok : mj_Cs mJ0_indexOf_0f7a4 4 csJ0_indexOf_0f7a4L := (mj_CsVS (D' := 3) sdJ0_indexOf_7cf53L (Nat.le_of_ble_eq_true rfl) fJ0_indexOf_7cf53 rfl iJ0_indexOf_7cf53 vJ0_indexOf_7cf53 (by decide +kernel) l14_633 mj_Cs0)
def cutJ0_indexOf_0f7a4L : List (Nat × List Bool) := []
set_option maxRecDepth 100000 in
set_option maxHeartbeats 4000000 in
theorem inJ0_indexOf_0f7a4L {Ω : mj_Om} {l : Launch} {d : Nat} {Φ : Option Value → mj_M → Prop} (hd : 4 ≤ d) (c : Int32) (I : Nat → Nat → Int32) (J : Nat → Nat → Int64)
    (h : (((1012 = 1012 ∧ mj_isk (mk I J)) ∧ (((0 : Int32) = 0 ∧ 0 ≤ (c).toInt ∧ (c).toInt ≤ 255) ∧ (Φ (some (.int (ixF [98, 116, 118, 120, 99, 119, 108] ((c).toInt8.toInt32) 7 0))) (mk I J)))))) :
    mj_Met Ω l false mJ0_indexOf_0f7a4 d 0 0 [.ref 1012, .int c] (mk I J) Φ := mj_entry (by decide) rfl (fun h => (by cases h)) (Nat.le_of_ble_eq_true rfl) (mj_blk (μ := mJ0_indexOf_0f7a4) (P := pJ0_indexOf_0f7a4) (cut := cutJ0_indexOf_0f7a4L) (cs := csJ0_indexOf_0f7a4L) dJ0_indexOf_0f7a4 csJ0_indexOf_0f7a4L_ok hd 6 0 _ h)
def tJ0_indexOf_0f7a4L : mj_PT := fun as M Φ => match as with
  | [.ref this, .int c] => ((this = 1012 ∧ mj_isk M) ∧ ((0 ≤ (c).toInt ∧ (c).toInt ≤ 255) ∧ Φ (some (.int (ixF [98, 116, 118, 120, 99, 119, 108] ((c).toInt8.toInt32) 7 0))) M))
  | _ => False
theorem mnJ0_indexOf_0f7a4L {Ω : mj_Om} {l : Launch} {d : Nat} {Φ : Option Value → mj_M → Prop} (hd : 4 ≤ d) (c : Int32) (I : Nat → Nat → Int32) (J : Nat → Nat → Int64) (hp : 0 ≤ (c).toInt ∧ (c).toInt ≤ 255) (h : Φ (some (.int (ixF [98, 116, 118, 120, 99, 119, 108] ((c).toInt8.toInt32) 7 0))) (mk I J)) : mj_Met Ω l false mJ0_indexOf_0f7a4 d 0 0 [.ref 1012, .int c] (mk I J) Φ := by
  refine inJ0_indexOf_0f7a4L hd c I J ?_
  exact ⟨⟨by trivial, mj_isk_mk _ _⟩, ⟨rfl, hp.1, hp.2⟩, h⟩
theorem sdJ0_indexOf_0f7a4L : mj_Sd mJ0_indexOf_0f7a4 4 tJ0_indexOf_0f7a4L := by
  intro Ω l d hd as M Φ h
  unfold tJ0_indexOf_0f7a4L at h
  split at h
  · rename_i z_this c
    obtain ⟨⟨rfl, hM⟩, hp, h⟩ := h
    rw [mj_isk_of hM]
    exact mnJ0_indexOf_0f7a4L hd c _ _ hp (by
      rw [mj_isk_of hM] at h
      exact h)
  · exact h.elim
def csX8_indexInL : List (Nat × Nat × Nat × mj_PT) := [(33, 0, 2, mj_rcS tJ0_indexOf_0f7a4L)]
theorem csX8_indexInL_ok : mj_Cs mX8_indexIn 5 csX8_indexInL := (mj_CsVS (D' := 4) sdJ0_indexOf_0f7a4L (Nat.le_of_ble_eq_true rfl) fJ0_indexOf_0f7a4 rfl iJ0_indexOf_0f7a4 vJ0_indexOf_0f7a4 (by decide +kernel) l8_33 mj_Cs0)
def cutX8_indexInL : List (Nat × List Bool) := []
set_option maxRecDepth 100000 in
set_option maxHeartbeats 4000000 in
theorem inX8_indexInL {Ω : mj_Om} {l : Launch} {d : Nat} {Φ : Option Value → mj_M → Prop} (hd : 5 ≤ d) (s : Int32) (I : Nat → Nat → Int32) (J : Nat → Nat → Int64)
    (h : ((if s < (1 : Int32) then (Φ (some (.int (-1 : Int32))) (mk I J)) else ((1012 = 1012 ∧ mj_isk (mk I J)) ∧ ((0 ≤ ((((s).toUInt32 % 65536).toInt32)).toInt ∧ ((((s).toUInt32 % 65536).toInt32)).toInt ≤ 255) ∧ (Φ (some (.int (ixF [98, 116, 118, 120, 99, 119, 108] (((((s).toUInt32 % 65536).toInt32)).toInt8.toInt32) 7 0))) (mk I J))))))) :
    mj_Met Ω l false mX8_indexIn d 0 0 [.ref 1012, .int s] (mk I J) Φ := mj_entry (by decide) rfl (fun h => (by cases h)) (Nat.le_of_ble_eq_true rfl) (mj_blk (μ := mX8_indexIn) (P := pX8_indexIn) (cut := cutX8_indexInL) (cs := csX8_indexInL) dX8_indexIn csX8_indexInL_ok hd 11 0 _ h)
def tX8_indexInL : mj_PT := fun as M Φ => match as with
  | [.ref l_, .int s] => ((l_ = 1012 ∧ mj_isk M) ∧ ((-1 ≤ (s).toInt ∧ (s).toInt ≤ 255) ∧ Φ (some (.int (ltr s))) M))
  | _ => False
set_option maxHeartbeats 4000000 in
theorem mnX8_indexInL {Ω : mj_Om} {l : Launch} {d : Nat} {Φ : Option Value → mj_M → Prop} (hd : 5 ≤ d) (s : Int32) (I : Nat → Nat → Int32) (J : Nat → Nat → Int64) (hp : -1 ≤ (s).toInt ∧ (s).toInt ≤ 255) (h : Φ (some (.int (ltr s))) (mk I J)) : mj_Met Ω l false mX8_indexIn d 0 0 [.ref 1012, .int s] (mk I J) Φ := by
  refine inX8_indexInL hd s I J ?_
  by_cases q : s < 1
  · rw [if_pos q]
    have hs : s.toInt < 1 := by rw [Int32.lt_iff_toInt_lt, i_1] at q; exact q
    have e : s = -1 ∨ s = 0 := by
      rcases (by omega : s.toInt = -1 ∨ s.toInt = 0) with z | z
      · left; exact Int32.toInt_inj.mp z
      · right; exact Int32.toInt_inj.mp z
    rcases e with rfl | rfl
    · exact h
    · exact h
  · rw [if_neg q]
    have hs : 1 ≤ s.toInt := by rw [Int32.lt_iff_toInt_lt, i_1] at q; omega
    have e : s = nI s.toNatClampNeg := jn_of (by rw [Int32.le_iff_toInt_le, i_0]; omega)
    have hk : s.toNatClampNeg < 256 ∧ 0 < s.toNatClampNeg := by
      have e2 : s.toInt = (s.toNatClampNeg : Int) := by
        have := congrArg Int32.toInt e
        rw [jn_toInt (cl_lt s)] at this
        exact this
      omega
    have e3 : (s.toUInt32 % 65536).toInt32 = s := by rw [e]; exact i2c_256 _ hk.1
    have e4 := ix_L s.toNatClampNeg hk.1 hk.2
    rw [← e] at e4
    rw [e3]
    refine ⟨⟨by trivial, mj_isk_mk _ _⟩, ⟨by omega, hp.2⟩, ?_⟩
    rw [e4]
    exact h
theorem sdX8_indexInL : mj_Sd mX8_indexIn 5 tX8_indexInL := by
  intro Ω l d hd as M Φ h
  unfold tX8_indexInL at h
  split at h
  · rename_i z_l s
    obtain ⟨⟨rfl, hM⟩, hp, h⟩ := h
    rw [mj_isk_of hM]
    exact mnX8_indexInL hd s _ _ hp (by
      rw [mj_isk_of hM] at h
      exact h)
  · exact h.elim
