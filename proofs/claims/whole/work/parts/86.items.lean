/-! ===== the class's WaterReader: items (by program, wip/whole/p86.py) ===== -/
def iFr (c k : Nat) : Prop := (c = 1 ∧ k = 2) ∨ c = 12
/-- what is left behind items -/
def wrI (N : Nat) (r : IR) (t : Nat) (τ : Nat → Int32) (I1 : Nat → Nat → Int32) : Prop := (∀ e, r = .error e → I1 1 2 = nI e) ∧ ∀ q, r = .ok q → (∃ a, a ≤ t ∧ I1 1 2 = nI a ∧ skp t τ a = q.1) ∧ ∀ j, j < N → I1 12 j = q.2 j
theorem it_neg {k : Int32} (h : ∃ j, j < 7 ∧ k = nI j) : ¬ k < 0 := by
  obtain ⟨j, hj, e⟩ := h
  rw [e, show (0 : Int32) = nI 0 from rfl, jn_lt (by omega) (by omega)]
  omega
set_option maxRecDepth 10000 in
theorem loL_l : ∀ j, j < 7 → ([2, 0, 0, 0, 0, 1, 0] : List Int32).getD j 0 = loL (nI j) ∧ ([20, 9, 1, 9, 9, 60, 1] : List Int32).getD j 0 = hiL (nI j) ∧ ([10, 0, 0, 0, 0, 20, 0] : List Int32).getD j 0 = usL (nI j) := by decide +kernel
set_option maxRecDepth 10000 in
theorem loB_l : ∀ j, j < 6 → ([0, 0, 0, 1, 0, 0] : List Int32).getD j 0 = loB (nI j) ∧ ([19, 19, 3, 3, 9, 4] : List Int32).getD j 0 = hiB (nI j) ∧ ([0, 5, 0, 2, 5, 4] : List Int32).getD j 0 = usB (nI j) := by decide +kernel
def csJ1_indexOfChar_4cfefW : List (Nat × Nat × Nat × mj_PT) := []
theorem csJ1_indexOfChar_4cfefW_ok : mj_Cs mJ1_indexOfChar_4cfef 1 csJ1_indexOfChar_4cfefW := mj_Cs0
def cutJ1_indexOfChar_4cfefW : List (Nat × List Bool) := [(7, [true, true, true, true, true, true])]
set_option maxRecDepth 100000 in
set_option maxHeartbeats 4000000 in
theorem inJ1_indexOfChar_4cfefW {Ω : mj_Om} {l : Launch} {d : Nat} {Φ : Option Value → mj_M → Prop} (hd : 1 ≤ d) (c : Int32) (f : Int32) (m : Int32) (I : Nat → Nat → Int32) (J : Nat → Nat → Int64)
    (h : ((mj_G Ω l false mJ1_indexOfChar_4cfef d 0 0 Φ 0 0 7 ([some (.ref 1020), some (.int c), some (.int f), some (.int m), some (.int ((c).toInt8.toInt32)), some (.int f)], [], (mk I J))))) :
    mj_Met Ω l false mJ1_indexOfChar_4cfef d 0 0 [.ref 1020, .int c, .int f, .int m] (mk I J) Φ := mj_entry (by decide) rfl (fun h => (by cases h)) (Nat.le_of_ble_eq_true rfl) (mj_blk (μ := mJ1_indexOfChar_4cfef) (P := pJ1_indexOfChar_4cfef) (cut := cutJ1_indexOfChar_4cfefW) (cs := csJ1_indexOfChar_4cfefW) dJ1_indexOfChar_4cfef csJ1_indexOfChar_4cfefW_ok hd 20 0 _ h)
set_option maxRecDepth 100000 in
set_option maxHeartbeats 4000000 in
theorem bJ1_indexOfChar_4cfefW_7 {Ω : mj_Om} {l : Launch} {d : Nat} {Φ : Option Value → mj_M → Prop} (hd : 1 ≤ d) (x1 : Int32) (x2 : Int32) (x3 : Int32) (x4 : Int32) (x5 : Int32) (I : Nat → Nat → Int32) (J : Nat → Nat → Int64)
    (h : ((if x5 < x3 then (mj_gd (mj_inB x5 7) (if (([119, 97, 101, 117, 100, 115, 102] : List Int32).getD (x5).toNatClampNeg 0) = x4 then (Φ (some (.int x5)) (mk I J)) else (mj_G Ω l false mJ1_indexOfChar_4cfef d 0 0 Φ 0 0 7 ([some (.ref 1020), some (.int x1), some (.int x2), some (.int x3), some (.int x4), some (.int (x5 + (1 : Int32)))], [], (mk I J))))) else (Φ (some (.int (-1 : Int32))) (mk I J))))) :
    mj_G Ω l false mJ1_indexOfChar_4cfef d 0 0 Φ 0 0 7 ([some (.ref 1020), some (.int x1), some (.int x2), some (.int x3), some (.int x4), some (.int x5)], [], mk I J) := mj_blk (μ := mJ1_indexOfChar_4cfef) (P := pJ1_indexOfChar_4cfef) (cut := cutJ1_indexOfChar_4cfefW) (cs := csJ1_indexOfChar_4cfefW) dJ1_indexOfChar_4cfef csJ1_indexOfChar_4cfefW_ok hd 20 7 _ h
def tJ1_indexOfChar_4cfefW : mj_PT := fun as M Φ => match as with
  | [.ref a_, .int c, .int f, .int m] => ((a_ = 1020 ∧ mj_isk M) ∧ ((f = 0 ∧ m = 7) ∧ Φ (some (.int (ixF [119, 97, 101, 117, 100, 115, 102] ((c).toInt8.toInt32) 7 0))) M))
  | _ => False
set_option maxHeartbeats 4000000 in
theorem mnJ1_indexOfChar_4cfefW {Ω : mj_Om} {l : Launch} {d : Nat} {Φ : Option Value → mj_M → Prop} (hd : 1 ≤ d) (c : Int32) (f : Int32) (m : Int32) (I : Nat → Nat → Int32) (J : Nat → Nat → Int64) (hp : f = 0 ∧ m = 7) (h : Φ (some (.int (ixF [119, 97, 101, 117, 100, 115, 102] ((c).toInt8.toInt32) 7 0))) (mk I J)) : mj_Met Ω l false mJ1_indexOfChar_4cfef d 0 0 [.ref 1020, .int c, .int f, .int m] (mk I J) Φ := by
  refine inJ1_indexOfChar_4cfefW hd c f m I J ?_
  obtain ⟨rfl, rfl⟩ := hp
  have key : ∀ (f i : Nat), i + f = 7 → (Φ (some (.int (ixF [119, 97, 101, 117, 100, 115, 102] (c.toInt8.toInt32) f i))) (mk I J)) → mj_G Ω l false mJ1_indexOfChar_4cfef d 0 0 Φ 0 0 7 ([some (.ref 1020), some (.int c), some (.int 0), some (.int 7), some (.int (c.toInt8.toInt32)), some (.int (nI i))], [], mk I J) := by
    intro f
    induction f with
    | zero =>
      intro i hi hh
      refine bJ1_indexOfChar_4cfefW_7 hd c 0 7 (c.toInt8.toInt32) (nI i) I J ?_
      rw [show (7 : Int32) = nI 7 from rfl, if_neg (nnl (a := i) (b := 7) (by omega) (by omega))]
      exact hh
    | succ f ih =>
      intro i hi hh
      refine bJ1_indexOfChar_4cfefW_7 hd c 0 7 (c.toInt8.toInt32) (nI i) I J ?_
      rw [show (7 : Int32) = nI 7 from rfl, if_pos (nlt (a := i) (b := 7) (by omega) (by omega))]
      simp (disch := omega) only [jn_in, jn_cl, gd_dec, jn_succ]
      rw [ixF] at hh
      by_cases q : ([119, 97, 101, 117, 100, 115, 102] : List Int32).getD i 0 = c.toInt8.toInt32
      · rw [if_pos q] at hh ⊢; exact hh
      · rw [if_neg q] at hh ⊢; exact ih (i + 1) (by omega) hh
  exact key 7 0 (by omega) h
theorem sdJ1_indexOfChar_4cfefW : mj_Sd mJ1_indexOfChar_4cfef 1 tJ1_indexOfChar_4cfefW := by
  intro Ω l d hd as M Φ h
  unfold tJ1_indexOfChar_4cfefW at h
  split at h
  · rename_i z_a c f m
    obtain ⟨⟨rfl, hM⟩, hp, h⟩ := h
    rw [mj_isk_of hM]
    exact mnJ1_indexOfChar_4cfefW hd c f m _ _ hp (by
      rw [mj_isk_of hM] at h
      exact h)
  · exact h.elim
def csJ1_indexOf_4cfefW : List (Nat × Nat × Nat × mj_PT) := [(38, 1, 2, mj_ptmn), (88, 1, 1, tJ1_canEncode_9a6ad), (92, 1, 2, mj_ptmx), (95, 1, 4, tJ1_indexOfChar_4cfefW)]
theorem csJ1_indexOf_4cfefW_ok : mj_Cs mJ1_indexOf_4cfef 2 csJ1_indexOf_4cfefW := (mj_Csmn (Nat.le_of_ble_eq_true rfl) l15_38 (mj_CsS (D' := 1) sdJ1_canEncode_9a6ad (Nat.le_of_ble_eq_true rfl) fJ1_canEncode_9a6ad sJ1_canEncode_9a6ad (by decide +kernel) l15_88 (mj_Csmx (Nat.le_of_ble_eq_true rfl) l15_92 (mj_CsS (D' := 1) sdJ1_indexOfChar_4cfefW (Nat.le_of_ble_eq_true rfl) fJ1_indexOfChar_4cfef sJ1_indexOfChar_4cfef (by decide +kernel) l15_95 mj_Cs0))))
def cutJ1_indexOf_4cfefW : List (Nat × List Bool) := []
set_option maxRecDepth 100000 in
set_option maxHeartbeats 4000000 in
theorem inJ1_indexOf_4cfefW {Ω : mj_Om} {l : Launch} {d : Nat} {Φ : Option Value → mj_M → Prop} (hd : 2 ≤ d) (c : Int32) (f : Int32) (m : Int32) (I : Nat → Nat → Int32) (J : Nat → Nat → Int64)
    (h : ((if c < (0 : Int32) then (Φ (some (.int (-1 : Int32))) (mk I J)) else (if (255 : Int32) < c then (Φ (some (.int (-1 : Int32))) (mk I J)) else (if (if f < (0 : Int32) then (0 : Int32) else f) < (if (7 : Int32) < m then (7 : Int32) else m) then ((1020 = 1020 ∧ mj_isk (mk I J)) ∧ (((if f < (0 : Int32) then (0 : Int32) else f) = 0 ∧ (if (7 : Int32) < m then (7 : Int32) else m) = 7) ∧ (Φ (some (.int (ixF [119, 97, 101, 117, 100, 115, 102] ((c).toInt8.toInt32) 7 0))) (mk I J)))) else (Φ (some (.int (-1 : Int32))) (mk I J))))))) :
    mj_Met Ω l false mJ1_indexOf_4cfef d 0 0 [.ref 1020, .int c, .int f, .int m] (mk I J) Φ := mj_entry (by decide) rfl (fun h => (by cases h)) (Nat.le_of_ble_eq_true rfl) (mj_blk (μ := mJ1_indexOf_4cfef) (P := pJ1_indexOf_4cfef) (cut := cutJ1_indexOf_4cfefW) (cs := csJ1_indexOf_4cfefW) dJ1_indexOf_4cfef csJ1_indexOf_4cfefW_ok hd 26 0 _ h)
def tJ1_indexOf_4cfefW : mj_PT := fun as M Φ => match as with
  | [.ref a_, .int c, .int f, .int m] => ((a_ = 1020 ∧ mj_isk M) ∧ ((f = 0 ∧ m = 7 ∧ 0 ≤ (c).toInt ∧ (c).toInt ≤ 255) ∧ Φ (some (.int (ixF [119, 97, 101, 117, 100, 115, 102] ((c).toInt8.toInt32) 7 0))) M))
  | _ => False
theorem mnJ1_indexOf_4cfefW {Ω : mj_Om} {l : Launch} {d : Nat} {Φ : Option Value → mj_M → Prop} (hd : 2 ≤ d) (c : Int32) (f : Int32) (m : Int32) (I : Nat → Nat → Int32) (J : Nat → Nat → Int64) (hp : f = 0 ∧ m = 7 ∧ 0 ≤ (c).toInt ∧ (c).toInt ≤ 255) (h : Φ (some (.int (ixF [119, 97, 101, 117, 100, 115, 102] ((c).toInt8.toInt32) 7 0))) (mk I J)) : mj_Met Ω l false mJ1_indexOf_4cfef d 0 0 [.ref 1020, .int c, .int f, .int m] (mk I J) Φ := by
  refine inJ1_indexOf_4cfefW hd c f m I J ?_
  obtain ⟨rfl, rfl, h1, h2⟩ := hp
  rw [if_neg (show ¬ c < 0 by rw [Int32.lt_iff_toInt_lt, i_0]; omega), if_neg (show ¬ (255 : Int32) < c by rw [Int32.lt_iff_toInt_lt, show (255 : Int32).toInt = 255 from rfl]; omega)]
  have e1 : (if (0 : Int32) < 0 then (0 : Int32) else 0) = 0 := by decide
  have e2 : (if (7 : Int32) < 7 then (7 : Int32) else 7) = 7 := by decide
  rw [e1, e2, if_pos (by decide)]
  exact ⟨⟨by trivial, mj_isk_mk _ _⟩, ⟨rfl, rfl⟩, h⟩
theorem sdJ1_indexOf_4cfefW : mj_Sd mJ1_indexOf_4cfef 2 tJ1_indexOf_4cfefW := by
  intro Ω l d hd as M Φ h
  unfold tJ1_indexOf_4cfefW at h
  split at h
  · rename_i z_a c f m
    obtain ⟨⟨rfl, hM⟩, hp, h⟩ := h
    rw [mj_isk_of hM]
    exact mnJ1_indexOf_4cfefW hd c f m _ _ hp (by
      rw [mj_isk_of hM] at h
      exact h)
  · exact h.elim
def csJ0_indexOf_7cf53W : List (Nat × Nat × Nat × mj_PT) := [(492, 0, 1, mj_rcS tJ0_isLatin1_aae02), (505, 0, 1, mj_rcS tJ0_length_8abf5), (637, 1, 4, tJ1_indexOf_4cfefW)]
theorem csJ0_indexOf_7cf53W_ok : mj_Cs mJ0_indexOf_7cf53 3 csJ0_indexOf_7cf53W := (mj_CsVS (D' := 1) sdJ0_isLatin1_aae02 (Nat.le_of_ble_eq_true rfl) fJ0_isLatin1_aae02 rfl iJ0_isLatin1_aae02 vJ0_isLatin1_aae02 (by decide +kernel) l14_492 (mj_CsVS (D' := 2) sdJ0_length_8abf5 (Nat.le_of_ble_eq_true rfl) fJ0_length_8abf5 rfl iJ0_length_8abf5 vJ0_length_8abf5 (by decide +kernel) l14_505 (mj_CsS (D' := 2) sdJ1_indexOf_4cfefW (Nat.le_of_ble_eq_true rfl) fJ1_indexOf_4cfef sJ1_indexOf_4cfef (by decide +kernel) l14_637 mj_Cs0)))
def cutJ0_indexOf_7cf53W : List (Nat × List Bool) := []
set_option maxRecDepth 100000 in
set_option maxHeartbeats 4000000 in
theorem inJ0_indexOf_7cf53W {Ω : mj_Om} {l : Launch} {d : Nat} {Φ : Option Value → mj_M → Prop} (hd : 3 ≤ d) (c : Int32) (f : Int32) (I : Nat → Nat → Int32) (J : Nat → Nat → Int64)
    (h : (((1020 = 1020 ∧ mj_isk (mk I J)) ∧ ((f = 0 ∧ ((7 : Int32) >>> ((0 : Int32) &&& 31)) = 7 ∧ 0 ≤ (c).toInt ∧ (c).toInt ≤ 255) ∧ (Φ (some (.int (ixF [119, 97, 101, 117, 100, 115, 102] ((c).toInt8.toInt32) 7 0))) (mk I J)))))) :
    mj_Met Ω l false mJ0_indexOf_7cf53 d 0 0 [.ref 1010, .int c, .int f] (mk I J) Φ := mj_entry (by decide) rfl (fun h => (by cases h)) (Nat.le_of_ble_eq_true rfl) (mj_blk (μ := mJ0_indexOf_7cf53) (P := pJ0_indexOf_7cf53) (cut := cutJ0_indexOf_7cf53W) (cs := csJ0_indexOf_7cf53W) dJ0_indexOf_7cf53 csJ0_indexOf_7cf53W_ok hd 20 0 _ h)
def tJ0_indexOf_7cf53W : mj_PT := fun as M Φ => match as with
  | [.ref this, .int c, .int f] => ((this = 1010 ∧ mj_isk M) ∧ ((f = 0 ∧ 0 ≤ (c).toInt ∧ (c).toInt ≤ 255) ∧ Φ (some (.int (ixF [119, 97, 101, 117, 100, 115, 102] ((c).toInt8.toInt32) 7 0))) M))
  | _ => False
theorem mnJ0_indexOf_7cf53W {Ω : mj_Om} {l : Launch} {d : Nat} {Φ : Option Value → mj_M → Prop} (hd : 3 ≤ d) (c : Int32) (f : Int32) (I : Nat → Nat → Int32) (J : Nat → Nat → Int64) (hp : f = 0 ∧ 0 ≤ (c).toInt ∧ (c).toInt ≤ 255) (h : Φ (some (.int (ixF [119, 97, 101, 117, 100, 115, 102] ((c).toInt8.toInt32) 7 0))) (mk I J)) : mj_Met Ω l false mJ0_indexOf_7cf53 d 0 0 [.ref 1010, .int c, .int f] (mk I J) Φ := by
  refine inJ0_indexOf_7cf53W hd c f I J ?_
  obtain ⟨rfl, h1, h2⟩ := hp
  exact ⟨⟨by trivial, mj_isk_mk _ _⟩, ⟨rfl, by decide, h1, h2⟩, h⟩
theorem sdJ0_indexOf_7cf53W : mj_Sd mJ0_indexOf_7cf53 3 tJ0_indexOf_7cf53W := by
  intro Ω l d hd as M Φ h
  unfold tJ0_indexOf_7cf53W at h
  split at h
  · rename_i z_this c f
    obtain ⟨⟨rfl, hM⟩, hp, h⟩ := h
    rw [mj_isk_of hM]
    exact mnJ0_indexOf_7cf53W hd c f _ _ hp (by
      rw [mj_isk_of hM] at h
      exact h)
  · exact h.elim
def csJ0_indexOf_0f7a4W : List (Nat × Nat × Nat × mj_PT) := [(633, 0, 3, mj_rcS tJ0_indexOf_7cf53W)]
theorem csJ0_indexOf_0f7a4W_ok : mj_Cs mJ0_indexOf_0f7a4 4 csJ0_indexOf_0f7a4W := (mj_CsVS (D' := 3) sdJ0_indexOf_7cf53W (Nat.le_of_ble_eq_true rfl) fJ0_indexOf_7cf53 rfl iJ0_indexOf_7cf53 vJ0_indexOf_7cf53 (by decide +kernel) l14_633 mj_Cs0)
def cutJ0_indexOf_0f7a4W : List (Nat × List Bool) := []
set_option maxRecDepth 100000 in
set_option maxHeartbeats 4000000 in
theorem inJ0_indexOf_0f7a4W {Ω : mj_Om} {l : Launch} {d : Nat} {Φ : Option Value → mj_M → Prop} (hd : 4 ≤ d) (c : Int32) (I : Nat → Nat → Int32) (J : Nat → Nat → Int64)
    (h : (((1010 = 1010 ∧ mj_isk (mk I J)) ∧ (((0 : Int32) = 0 ∧ 0 ≤ (c).toInt ∧ (c).toInt ≤ 255) ∧ (Φ (some (.int (ixF [119, 97, 101, 117, 100, 115, 102] ((c).toInt8.toInt32) 7 0))) (mk I J)))))) :
    mj_Met Ω l false mJ0_indexOf_0f7a4 d 0 0 [.ref 1010, .int c] (mk I J) Φ := mj_entry (by decide) rfl (fun h => (by cases h)) (Nat.le_of_ble_eq_true rfl) (mj_blk (μ := mJ0_indexOf_0f7a4) (P := pJ0_indexOf_0f7a4) (cut := cutJ0_indexOf_0f7a4W) (cs := csJ0_indexOf_0f7a4W) dJ0_indexOf_0f7a4 csJ0_indexOf_0f7a4W_ok hd 6 0 _ h)
def tJ0_indexOf_0f7a4W : mj_PT := fun as M Φ => match as with
  | [.ref this, .int c] => ((this = 1010 ∧ mj_isk M) ∧ ((0 ≤ (c).toInt ∧ (c).toInt ≤ 255) ∧ Φ (some (.int (ixF [119, 97, 101, 117, 100, 115, 102] ((c).toInt8.toInt32) 7 0))) M))
  | _ => False
theorem mnJ0_indexOf_0f7a4W {Ω : mj_Om} {l : Launch} {d : Nat} {Φ : Option Value → mj_M → Prop} (hd : 4 ≤ d) (c : Int32) (I : Nat → Nat → Int32) (J : Nat → Nat → Int64) (hp : 0 ≤ (c).toInt ∧ (c).toInt ≤ 255) (h : Φ (some (.int (ixF [119, 97, 101, 117, 100, 115, 102] ((c).toInt8.toInt32) 7 0))) (mk I J)) : mj_Met Ω l false mJ0_indexOf_0f7a4 d 0 0 [.ref 1010, .int c] (mk I J) Φ := by
  refine inJ0_indexOf_0f7a4W hd c I J ?_
  exact ⟨⟨by trivial, mj_isk_mk _ _⟩, ⟨rfl, hp.1, hp.2⟩, h⟩
theorem sdJ0_indexOf_0f7a4W : mj_Sd mJ0_indexOf_0f7a4 4 tJ0_indexOf_0f7a4W := by
  intro Ω l d hd as M Φ h
  unfold tJ0_indexOf_0f7a4W at h
  split at h
  · rename_i z_this c
    obtain ⟨⟨rfl, hM⟩, hp, h⟩ := h
    rw [mj_isk_of hM]
    exact mnJ0_indexOf_0f7a4W hd c _ _ hp (by
      rw [mj_isk_of hM] at h
      exact h)
  · exact h.elim
def csX8_indexInW : List (Nat × Nat × Nat × mj_PT) := [(33, 0, 2, mj_rcS tJ0_indexOf_0f7a4W)]
theorem csX8_indexInW_ok : mj_Cs mX8_indexIn 5 csX8_indexInW := (mj_CsVS (D' := 4) sdJ0_indexOf_0f7a4W (Nat.le_of_ble_eq_true rfl) fJ0_indexOf_0f7a4 rfl iJ0_indexOf_0f7a4 vJ0_indexOf_0f7a4 (by decide +kernel) l8_33 mj_Cs0)
def cutX8_indexInW : List (Nat × List Bool) := []
set_option maxRecDepth 100000 in
set_option maxHeartbeats 4000000 in
theorem inX8_indexInW {Ω : mj_Om} {l : Launch} {d : Nat} {Φ : Option Value → mj_M → Prop} (hd : 5 ≤ d) (s : Int32) (I : Nat → Nat → Int32) (J : Nat → Nat → Int64)
    (h : ((if s < (1 : Int32) then (Φ (some (.int (-1 : Int32))) (mk I J)) else ((1010 = 1010 ∧ mj_isk (mk I J)) ∧ ((0 ≤ ((((s).toUInt32 % 65536).toInt32)).toInt ∧ ((((s).toUInt32 % 65536).toInt32)).toInt ≤ 255) ∧ (Φ (some (.int (ixF [119, 97, 101, 117, 100, 115, 102] (((((s).toUInt32 % 65536).toInt32)).toInt8.toInt32) 7 0))) (mk I J))))))) :
    mj_Met Ω l false mX8_indexIn d 0 0 [.ref 1010, .int s] (mk I J) Φ := mj_entry (by decide) rfl (fun h => (by cases h)) (Nat.le_of_ble_eq_true rfl) (mj_blk (μ := mX8_indexIn) (P := pX8_indexIn) (cut := cutX8_indexInW) (cs := csX8_indexInW) dX8_indexIn csX8_indexInW_ok hd 11 0 _ h)
def tX8_indexInW : mj_PT := fun as M Φ => match as with
  | [.ref l_, .int s] => ((l_ = 1010 ∧ mj_isk M) ∧ ((-1 ≤ (s).toInt ∧ (s).toInt ≤ 255) ∧ Φ (some (.int (itL s))) M))
  | _ => False
set_option maxHeartbeats 4000000 in
theorem mnX8_indexInW {Ω : mj_Om} {l : Launch} {d : Nat} {Φ : Option Value → mj_M → Prop} (hd : 5 ≤ d) (s : Int32) (I : Nat → Nat → Int32) (J : Nat → Nat → Int64) (hp : -1 ≤ (s).toInt ∧ (s).toInt ≤ 255) (h : Φ (some (.int (itL s))) (mk I J)) : mj_Met Ω l false mX8_indexIn d 0 0 [.ref 1010, .int s] (mk I J) Φ := by
  refine inX8_indexInW hd s I J ?_
  by_cases q : s < 1
  · rw [if_pos q]
    have hs : s.toInt < 1 := by rw [Int32.lt_iff_toInt_lt, i_1] at q; exact q
    have e : s = -1 ∨ s = 0 := by
      rcases (by omega : s.toInt = -1 ∨ s.toInt = 0) with z | z
      · left; exact Int32.toInt_inj.mp z
      · right; exact Int32.toInt_inj.mp z
    rcases e with rfl | rfl
    · exact h
    · exact h
  · rw [if_neg q]
    have hs : 1 ≤ s.toInt := by rw [Int32.lt_iff_toInt_lt, i_1] at q; omega
    have e : s = nI s.toNatClampNeg := jn_of (by rw [Int32.le_iff_toInt_le, i_0]; omega)
    have hk : s.toNatClampNeg < 256 ∧ 0 < s.toNatClampNeg := by
      have e2 : s.toInt = (s.toNatClampNeg : Int) := by
        have := congrArg Int32.toInt e
        rw [jn_toInt (cl_lt s)] at this
        exact this
      omega
    have e3 : (s.toUInt32 % 65536).toInt32 = s := by rw [e]; exact i2c_256 _ hk.1
    have e4 := ix_W s.toNatClampNeg hk.1 hk.2
    rw [← e] at e4
    rw [e3]
    refine ⟨⟨by trivial, mj_isk_mk _ _⟩, ⟨by omega, hp.2⟩, ?_⟩
    rw [e4]
    exact h
theorem sdX8_indexInW : mj_Sd mX8_indexIn 5 tX8_indexInW := by
  intro Ω l d hd as M Φ h
  unfold tX8_indexInW at h
  split at h
  · rename_i z_l s
    obtain ⟨⟨rfl, hM⟩, hp, h⟩ := h
    rw [mj_isk_of hM]
    exact mnX8_indexInW hd s _ _ hp (by
      rw [mj_isk_of hM] at h
      exact h)
  · exact h.elim
def csX10_readItemsW : List (Nat × Nat × Nat × mj_PT) := [(57, 0, 1, mj_rcv 8 tX8_nextSign), (94, 1, 5, mj_ptcp), (115, 0, 1, mj_rcS tJ0_length_8abf5), (119, 1, 2, tX8_indexInW), (123, 0, 2, mj_rcv 8 tX8_takeNumber)]
theorem csX10_readItemsW_ok : mj_Cs mX10_readItems 6 csX10_readItemsW := (mj_CsV (D' := 1) (ci := 8) (q := (RX8, TX8, 3)) sdX8_nextSign (Nat.le_of_ble_eq_true rfl) fX8_nextSign rfl rfl iX8_nextSign vX8_nextSign (by decide +kernel) l10_57 (mj_CsCp (Nat.le_of_ble_eq_true rfl) (mj_gw_in (by decide +kernel)) (mj_CsVS (D' := 2) sdJ0_length_8abf5 (Nat.le_of_ble_eq_true rfl) fJ0_length_8abf5 rfl iJ0_length_8abf5 vJ0_length_8abf5 (by decide +kernel) l10_115 (mj_CsS (D' := 5) sdX8_indexInW (Nat.le_of_ble_eq_true rfl) fX8_indexIn sX8_indexIn (by decide +kernel) l10_119 (mj_CsV (D' := 2) (ci := 8) (q := (RX8, TX8, 3)) sdX8_takeNumber (Nat.le_of_ble_eq_true rfl) fX8_takeNumber rfl rfl iX8_takeNumber vX8_takeNumber (by decide +kernel) l10_123 mj_Cs0)))))
def cutX10_readItemsW : List (Nat × List Bool) := [(20, [true, true, true, true, true, true, true, false, false]), (60, [true, true, true, true, true, true, true, true, false])]
def pX10_readItemsW_0 : List (Nat × Instr × Nat) := [(0, .aload 4, 2), (2, .iconst 0, 1), (3, .aload_n 0, 1), (4, .getfield 11, 3), (7, .iconst 0, 1), (8, .aload 4, 2), (10, .arraylength, 1), (11, .invokestatic 94, 3), (14, .iconst 0, 1), (15, .istore 5, 2), (17, .iconst 0, 1), (18, .istore 6, 2), (20, .iload 6, 2)]
set_option maxRecDepth 100000 in
theorem dX10_readItemsW_0 : mj_pd cX10_readItems pX10_readItemsW_0 := mj_pdB (by decide +kernel)
set_option maxRecDepth 100000 in
set_option maxHeartbeats 4000000 in
theorem inX10_readItemsW {Ω : mj_Om} {l : Launch} {d : Nat} {Φ : Option Value → mj_M → Prop} (hd : 6 ≤ d) (I : Nat → Nat → Int32) (J : Nat → Nat → Int64)
    (h : ((mj_G Ω l false mX10_readItems d 0 0 Φ 0 0 20 ([some (.ref 11), some (.ref 1010), some (.ref 1000), some (.ref 1001), some (.ref 1002), some (.int (0 : Int32)), some (.int (0 : Int32)), none, none], [], (mk (mj_uc I 12 (va_cpy (fun j => ([10, 0, 0, 0, 0, 20, 0] : List Int32).getD j 0) (I 12) 0 0 7)) J))))) :
    mj_Met Ω l false mX10_readItems d 0 0 [.ref 11, .ref 1010, .ref 1000, .ref 1001, .ref 1002] (mk I J) Φ := mj_entry (by decide) rfl (fun h => (by cases h)) (Nat.le_of_ble_eq_true rfl) (mj_blk (μ := mX10_readItems) (P := pX10_readItemsW_0) (cut := cutX10_readItemsW) (cs := csX10_readItemsW) dX10_readItemsW_0 csX10_readItemsW_ok hd 14 0 _ h)
def pX10_readItemsW_20 : List (Nat × Instr × Nat) := [(20, .iload 6, 2), (22, .aload_n 1, 1), (23, .invokevirtual 115, 3), (26, .if_icmp .ge 122, 3), (29, .aload_n 1, 1), (30, .aload_n 0, 1), (31, .getfield 29, 3), (34, .invokevirtual 57, 3), (37, .invokestatic 119, 3), (40, .istore 7, 2), (42, .iload 7, 2), (44, .ifCond .lt 14, 3), (47, .iload 5, 2), (49, .iload 7, 2), (51, .ishr, 1), (52, .iconst 1, 1), (53, .iand, 1), (54, .iconst 1, 1), (55, .if_icmp .ne 5, 3), (58, .iconst 1, 1), (59, .ireturn, 1), (60, .iload 5, 2), (148, .iconst 1, 1), (149, .ireturn, 1)]
set_option maxRecDepth 100000 in
theorem dX10_readItemsW_20 : mj_pd cX10_readItems pX10_readItemsW_20 := mj_pdB (by decide +kernel)
set_option maxRecDepth 100000 in
set_option maxHeartbeats 4000000 in
theorem bX10_readItemsW_20 {Ω : mj_Om} {l : Launch} {d : Nat} {Φ : Option Value → mj_M → Prop} (hd : 6 ≤ d) (x5 : Int32) (x6 : Int32) (I : Nat → Nat → Int32) (J : Nat → Nat → Int64)
    (h : ((if x6 < ((7 : Int32) >>> ((0 : Int32) &&& 31)) then ((1 = 1 ∧ mj_isk (mk I J)) ∧ (∃ t2556 : Nat, (∃ τ2557 : Nat → Int32, (∃ p2558 : Nat, ((TC I t2556 τ2557 ∧ I 1 2 = nI p2558 ∧ p2558 ≤ t2556) ∧ (∀ I2559 : Nat → Nat → Int32, (I2559 1 2 = nI (skp t2556 τ2557 p2558) ∧ fr rFr I I2559) → ((1010 = 1010 ∧ mj_isk (mk I2559 J)) ∧ ((-1 ≤ ((nsg t2556 τ2557 p2558)).toInt ∧ ((nsg t2556 τ2557 p2558)).toInt ≤ 255) ∧ (if (itL (nsg t2556 τ2557 p2558)) < (0 : Int32) then (Φ (some (.int (1 : Int32))) (mk I2559 J)) else (if ((x5 >>> ((itL (nsg t2556 τ2557 p2558)) &&& 31)) &&& (1 : Int32)) = (1 : Int32) then (Φ (some (.int (1 : Int32))) (mk I2559 J)) else (mj_G Ω l false mX10_readItems d 0 0 Φ 0 0 60 ([some (.ref 11), some (.ref 1010), some (.ref 1000), some (.ref 1001), some (.ref 1002), some (.int x5), some (.int x6), some (.int (itL (nsg t2556 τ2557 p2558))), none], [], (mk I2559 J))))))))))))) else (Φ (some (.int (1 : Int32))) (mk I J))))) :
    mj_G Ω l false mX10_readItems d 0 0 Φ 0 0 20 ([some (.ref 11), some (.ref 1010), some (.ref 1000), some (.ref 1001), some (.ref 1002), some (.int x5), some (.int x6), none, none], [], mk I J) := mj_blk (μ := mX10_readItems) (P := pX10_readItemsW_20) (cut := cutX10_readItemsW) (cs := csX10_readItemsW) dX10_readItemsW_20 csX10_readItemsW_ok hd 25 20 _ h
def pX10_readItemsW_60 : List (Nat × Instr × Nat) := [(20, .iload 6, 2), (60, .iload 5, 2), (62, .iconst 1, 1), (63, .iload 7, 2), (65, .ishl, 1), (66, .ior, 1), (67, .istore 5, 2), (69, .aload_n 0, 1), (70, .getfield 29, 3), (73, .dup, 1), (74, .getfield 49, 3), (77, .iconst 1, 1), (78, .iadd, 1), (79, .putfield 49, 3), (82, .aload_n 0, 1), (83, .getfield 29, 3), (86, .iconst 2, 1), (87, .invokevirtual 123, 3), (90, .istore 8, 2), (92, .iload 8, 2), (94, .iconst (-1), 1), (95, .if_icmp .ne 5, 3), (98, .iconst 0, 1), (99, .ireturn, 1), (100, .iload 8, 2), (102, .aload_n 2, 1), (103, .iload 7, 2), (105, .iaload, 1), (106, .if_icmp .lt 12, 3), (109, .iload 8, 2), (111, .aload_n 3, 1), (112, .iload 7, 2), (114, .iaload, 1), (115, .if_icmp .le 18, 3), (118, .aload_n 0, 1), (119, .getfield 29, 3), (122, .dup, 1), (123, .getfield 49, 3), (126, .iconst 1, 1), (127, .isub, 1), (128, .putfield 49, 3), (131, .iconst 0, 1), (132, .ireturn, 1), (133, .aload_n 0, 1), (134, .getfield 11, 3), (137, .iload 7, 2), (139, .iload 8, 2), (141, .iastore, 1), (142, .iinc 6 1, 3), (145, .goto (-125), 3)]
set_option maxRecDepth 100000 in
theorem dX10_readItemsW_60 : mj_pd cX10_readItems pX10_readItemsW_60 := mj_pdB (by decide +kernel)
set_option maxRecDepth 100000 in
set_option maxHeartbeats 4000000 in
theorem bX10_readItemsW_60 {Ω : mj_Om} {l : Launch} {d : Nat} {Φ : Option Value → mj_M → Prop} (hd : 6 ≤ d) (x5 : Int32) (x6 : Int32) (x7 : Int32) (I : Nat → Nat → Int32) (J : Nat → Nat → Int64)
    (h : (((1 = 1 ∧ mj_isk (mk (mj_ui I 1 2 ((I 1 2) + (1 : Int32))) J)) ∧ (∃ m2563 : Nat, (2 : Int32) = nI m2563 ∧ (∃ t2564 : Nat, (∃ τ2565 : Nat → Int32, (∃ p2566 : Nat, ((TC (mj_ui I 1 2 ((I 1 2) + (1 : Int32))) t2564 τ2565 ∧ (mj_ui I 1 2 ((I 1 2) + (1 : Int32))) 1 2 = nI p2566 ∧ p2566 ≤ t2564 ∧ m2563 ≤ 4) ∧ (∀ I2567 : Nat → Nat → Int32, (I2567 1 2 = nI (numA (numR t2564 τ2565 m2563 p2566)) ∧ fr rFr (mj_ui I 1 2 ((I 1 2) + (1 : Int32))) I2567) → (if (numV (numR t2564 τ2565 m2563 p2566)) = (-1 : Int32) then (Φ (some (.int (0 : Int32))) (mk I2567 J)) else (mj_gd (mj_inB x7 7) (if (numV (numR t2564 τ2565 m2563 p2566)) < (([2, 0, 0, 0, 0, 1, 0] : List Int32).getD (x7).toNatClampNeg 0) then (Φ (some (.int (0 : Int32))) (mk (mj_ui I2567 1 2 ((I2567 1 2) - (1 : Int32))) J)) else (mj_gd (mj_inB x7 7) (if (([20, 9, 1, 9, 9, 60, 1] : List Int32).getD (x7).toNatClampNeg 0) < (numV (numR t2564 τ2565 m2563 p2566)) then (Φ (some (.int (0 : Int32))) (mk (mj_ui I2567 1 2 ((I2567 1 2) - (1 : Int32))) J)) else (mj_gd (mj_inB x7 7) (mj_G Ω l false mX10_readItems d 0 0 Φ 0 0 20 ([some (.ref 11), some (.ref 1010), some (.ref 1000), some (.ref 1001), some (.ref 1002), some (.int (x5 ||| ((1 : Int32) <<< (x7 &&& 31)))), some (.int (x6 + (1 : Int32))), none, none], [], (mk (mj_ui I2567 12 (x7).toNatClampNeg (numV (numR t2564 τ2565 m2563 p2566))) J)))))))))))))))))) :
    mj_G Ω l false mX10_readItems d 0 0 Φ 0 0 60 ([some (.ref 11), some (.ref 1010), some (.ref 1000), some (.ref 1001), some (.ref 1002), some (.int x5), some (.int x6), some (.int x7), none], [], mk I J) := mj_blk (μ := mX10_readItems) (P := pX10_readItemsW_60) (cut := cutX10_readItemsW) (cs := csX10_readItemsW) dX10_readItemsW_60 csX10_readItemsW_ok hd 51 60 _ h
def tX10_readItemsW : mj_PT := fun as M Φ => match as with
  | [.ref this, .ref a_, .ref b_, .ref c_, .ref e_] => ((this = 11 ∧ a_ = 1010 ∧ b_ = 1000 ∧ c_ = 1001 ∧ e_ = 1002 ∧ mj_isk M) ∧ (∃ t : Nat, (∃ τ : Nat → Int32, (∃ p : Nat, ((TC M.2.2.1 t τ ∧ M.2.2.1 1 2 = nI p ∧ p ≤ t) ∧ (∀ I1 : Nat → Nat → Int32, (wrI 7 (itLP t τ p) t τ I1 ∧ fr iFr M.2.2.1 I1) → Φ (some (.int (okB (itLP t τ p)))) (M.1, M.2.1, I1, M.2.2.2)))))))
  | _ => False
set_option maxHeartbeats 16000000 in
theorem mnX10_readItemsW {Ω : mj_Om} {l : Launch} {d : Nat} {Φ : Option Value → mj_M → Prop} (hd : 6 ≤ d) (t : Nat) (τ : Nat → Int32) (p : Nat) (I : Nat → Nat → Int32) (J : Nat → Nat → Int64) (hp : TC I t τ ∧ I 1 2 = nI p ∧ p ≤ t) (h : ∀ I1 : Nat → Nat → Int32, (wrI 7 (itLP t τ p) t τ I1 ∧ fr iFr I I1) → Φ (some (.int (okB (itLP t τ p)))) (mk I1 J)) : mj_Met Ω l false mX10_readItems d 0 0 [.ref 11, .ref 1010, .ref 1000, .ref 1001, .ref 1002] (mk I J) Φ := by
  refine inX10_readItemsW hd I J ?_
  obtain ⟨hT, h1, hpt⟩ := hp
  have ht := hT.1.1
  have TA : ∀ A, fr iFr I A → TC A t τ := fun A hA => TC_fr hT (hA 1 1 (by unfold iFr; omega)) (fun k => hA 2 k (by unfold iFr; omega))
  have hE : ∀ (e : Nat) (A : Nat → Nat → Int32), itLP t τ p = .error e → fr iFr I A → A 1 2 = nI e → Φ (some (.int 0)) (mk A J) := fun e A he hf ha => by
    have := h A ⟨⟨fun e' h' => by rw [he] at h'; cases h'; exact ha, fun q h' => by rw [he] at h'; cases h'⟩, hf⟩
    rw [he] at this
    exact this
  have hO : ∀ (q : Nat × (Nat → Int32)) (A : Nat → Nat → Int32) (a : Nat), itLP t τ p = .ok q → fr iFr I A → a ≤ t → A 1 2 = nI a → skp t τ a = q.1 → (∀ j, j < 7 → A 12 j = q.2 j) → Φ (some (.int 1)) (mk A J) := fun q A a he hf ha1 ha2 ha3 hv => by
    have := h A ⟨⟨fun e' h' => by rw [he] at h'; (cases h'), fun q' h' => by rw [he] at h'; cases h'; exact ⟨⟨a, ha1, ha2, ha3⟩, hv⟩⟩, hf⟩
    rw [he] at this
    exact this
  have key : ∀ (f i q : Nat) (g : Int32) (V : Nat → Int32) (B : Nat → Nat → Int32), i + f = 7 → q ≤ t → B 1 2 = nI q → (∀ j, j < 7 → B 12 j = V j) → fr iFr I B → itLP t τ p = itP t τ itL loL hiL f q g V → mj_G Ω l false mX10_readItems d 0 0 Φ 0 0 20 ([some (.ref 11), some (.ref 1010), some (.ref 1000), some (.ref 1001), some (.ref 1002), some (.int g), some (.int (nI i)), none, none], [], mk B J) := by
    intro f
    induction f with
    | zero =>
      intro i q g V B hi hq b1 bV bF he
      refine bX10_readItemsW_20 hd g (nI i) B J ?_
      rw [show (7 : Int32) >>> (0 &&& 31) = nI 7 by decide, if_neg (nnl (a := i) (b := 7) (by omega) (by omega))]
      exact hO (skp t τ q, V) B q he bF hq b1 rfl bV
    | succ f ih =>
      intro i q g V B hi hq b1 bV bF he
      have k1 := skp_le (τ := τ) hq
      have k2 := skp_ge (t := t) (τ := τ) (p := q)
      rw [itP] at he
      refine bX10_readItemsW_20 hd g (nI i) B J ?_
      rw [show (7 : Int32) >>> (0 &&& 31) = nI 7 by decide, if_pos (nlt (a := i) (b := 7) (by omega) (by omega))]
      refine ⟨⟨by trivial, mj_isk_mk _ _⟩, t, τ, q, ⟨TA B bF, b1, hq⟩, fun C hC => ?_⟩
      have cF : fr iFr I C := fr_tr bF (fr_mo hC.2 (fun c k w => Or.inl w))
      have cV : ∀ j, j < 7 → C 12 j = V j := fun j hj => by rw [hC.2 12 j (by unfold rFr; omega)]; exact bV j hj
      refine ⟨⟨by trivial, mj_isk_mk _ _⟩, sg_b hT.1, ?_⟩
      by_cases s1 : itL (nsg t τ q) = -1
      · rw [if_pos (by rw [s1]; decide)]
        rw [if_pos (Or.inl s1)] at he
        exact hO (skp t τ q, V) C (skp t τ q) he cF k1 hC.1 skp_skp cV
      obtain ⟨j, hj, ej⟩ := itL_b s1
      rw [if_neg (it_neg ⟨j, by omega, ej⟩)]
      by_cases s2 : hasB g (itL (nsg t τ q))
      · rw [if_pos s2]
        rw [if_pos (Or.inr s2)] at he
        exact hO (skp t τ q, V) C (skp t τ q) he cF k1 hC.1 skp_skp cV
      rw [if_neg s2]
      rw [if_neg (fun w => w.elim s1 s2)] at he
      have h3 : skp t τ q + 1 ≤ t := nsg_p rfl (fun w => s1 (by rw [w]; decide))
      rw [ej] at he ⊢
      refine bX10_readItemsW_60 hd g (nI i) (nI j) C J ?_
      rw [hC.1, jn_succ]
      have dF : fr iFr I (mj_ui C 1 2 (nI (skp t τ q + 1))) := fr_ui cF (Or.inl ⟨rfl, rfl⟩)
      refine ⟨⟨by trivial, mj_isk_mk _ _⟩, 2, rfl, t, τ, skp t τ q + 1, ⟨TA _ dF, ui_s, h3, by decide⟩, fun D hD => ?_⟩
      have dF' : fr iFr I D := fr_tr dF (fr_mo hD.2 (fun c k w => Or.inl w))
      have dV : ∀ j, j < 7 → D 12 j = V j := fun j hj => by rw [hD.2 12 j (by unfold rFr; omega), ui_c (by decide)]; exact cV j hj
      obtain ⟨n1, n2⟩ := num2_ok (τ := τ) h3
      cases hn : numR t τ 2 (skp t τ q + 1) with
      | error e =>
        rw [hn] at he hD
        rw [if_pos (show numV (.error e) = -1 from rfl)]
        exact hE e D he dF' hD.1
      | ok y =>
        obtain ⟨y1, y2, y3⟩ := n2 y hn
        rw [hn] at he hD
        dsimp only at he
        rw [if_neg (show ¬ numV (.ok y) = -1 from nI_mm (by omega)), show numV (.ok y) = nI y.2 from rfl]
        obtain ⟨l1, l2, l3⟩ := loL_l j hj
        have em : D 1 2 - 1 = nI (y.1 - 1) := by rw [hD.1, show numA (.ok y) = y.1 from rfl]; exact jn_sub (b := 1) (by omega)
        simp (disch := omega) only [jn_in, jn_cl, gd_dec]
        rw [l1, l2]
        by_cases w1 : nI y.2 < loL (nI j)
        · rw [if_pos w1, em]
          rw [if_pos (Or.inl w1)] at he
          exact hE _ _ he (fr_ui dF' (Or.inl ⟨rfl, rfl⟩)) ui_s
        rw [if_neg w1]
        by_cases w2 : hiL (nI j) < nI y.2
        · rw [if_pos w2, em]
          rw [if_pos (Or.inr w2)] at he
          exact hE _ _ he (fr_ui dF' (Or.inl ⟨rfl, rfl⟩)) ui_s
        rw [if_neg w2, jn_succ]
        rw [if_neg (fun w => w.elim w1 w2), jn_cl (by omega)] at he
        refine ih (i + 1) y.1 _ _ _ (by omega) y2 (by rw [ui_c (by decide)]; exact hD.1) (fun j' hj' => ?_) (fr_ui dF' (Or.inr rfl)) he
        unfold vupd
        by_cases z : j' = j
        · rw [if_pos z, z, ui_s]
        · rw [if_neg z, ui_k z]; exact dV j' hj'
  refine key 7 0 p 0 usLV _ (by omega) hpt (by rw [mj_uc_ne (by decide)]; exact h1) (fun j hj => ?_) (fun c k w => ?_) rfl
  · rw [mj_uc_self]
    unfold va_cpy
    rw [if_pos ⟨Nat.zero_le _, by omega⟩]
    have := (loL_l j hj).2.2
    show _ = usLV j
    rw [Nat.sub_zero, Nat.zero_add]
    exact this
  · rw [mj_uc_ne (fun z => w (Or.inr z))]
theorem sdX10_readItemsW : mj_Sd mX10_readItems 6 tX10_readItemsW := by
  intro Ω l d hd as M Φ h
  unfold tX10_readItemsW at h
  split at h
  · rename_i z_this z_a z_b z_c z_e
    obtain ⟨⟨rfl, rfl, rfl, rfl, rfl, hM⟩, t, τ, p, hp, h⟩ := h
    rw [mj_isk_of hM]
    exact mnX10_readItemsW hd t τ p _ _ hp (by
      rw [mj_isk_of hM] at h
      exact h)
  · exact h.elim
def lFr2 (c k : Nat) : Prop := (c = 1 ∧ k = 2) ∨ c = 12 ∨ c = 14
def wrL (r : IR) (t : Nat) (τ : Nat → Int32) (I1 : Nat → Nat → Int32) : Prop := (∀ e, r = .error e → I1 1 2 = nI e) ∧ ∀ q, r = .ok q → (∃ a, a ≤ t ∧ I1 1 2 = nI a ∧ skp t τ a = q.1) ∧ ∀ j, j < 7 → I1 14 j = q.2 j
def csX10_readLine : List (Nat × Nat × Nat × mj_PT) := [(87, 0, 5, mj_rcv 10 tX10_readItemsW), (94, 1, 5, mj_ptcp)]
theorem csX10_readLine_ok : mj_Cs mX10_readLine 7 csX10_readLine := (mj_CsV (D' := 6) (ci := 10) (q := (RX10, TX10, 5)) sdX10_readItemsW (Nat.le_of_ble_eq_true rfl) fX10_readItems rfl rfl iX10_readItems vX10_readItems (by decide +kernel) l10_87 (mj_CsCp (Nat.le_of_ble_eq_true rfl) (mj_gw_in (by decide +kernel)) mj_Cs0))
def cutX10_readLine : List (Nat × List Bool) := []
set_option maxRecDepth 100000 in
set_option maxHeartbeats 4000000 in
theorem inX10_readLine {Ω : mj_Om} {l : Launch} {d : Nat} {Φ : Option Value → mj_M → Prop} (hd : 7 ≤ d) (I : Nat → Nat → Int32) (J : Nat → Nat → Int64)
    (h : (((11 = 11 ∧ 1010 = 1010 ∧ 1000 = 1000 ∧ 1001 = 1001 ∧ 1002 = 1002 ∧ mj_isk (mk I J)) ∧ (∃ t2574 : Nat, (∃ τ2575 : Nat → Int32, (∃ p2576 : Nat, ((TC I t2574 τ2575 ∧ I 1 2 = nI p2576 ∧ p2576 ≤ t2574) ∧ (∀ I2577 : Nat → Nat → Int32, (wrI 7 (itLP t2574 τ2575 p2576) t2574 τ2575 I2577 ∧ fr iFr I I2577) → (if (okB (itLP t2574 τ2575 p2576)) = (0 : Int32) then (Φ (some (.int (0 : Int32))) (mk I2577 J)) else (Φ (some (.int (1 : Int32))) (mk (mj_uc I2577 14 (va_cpy (I2577 12) (I2577 14) 0 0 7)) J))))))))))) :
    mj_Met Ω l false mX10_readLine d 0 0 [.ref 11] (mk I J) Φ := mj_entry (by decide) rfl (fun h => (by cases h)) (Nat.le_of_ble_eq_true rfl) (mj_blk (μ := mX10_readLine) (P := pX10_readLine) (cut := cutX10_readLine) (cs := csX10_readLine) dX10_readLine csX10_readLine_ok hd 21 0 _ h)
def tX10_readLine : mj_PT := fun as M Φ => match as with
  | [.ref this] => ((this = 11 ∧ mj_isk M) ∧ (∃ t : Nat, (∃ τ : Nat → Int32, (∃ p : Nat, ((TC M.2.2.1 t τ ∧ M.2.2.1 1 2 = nI p ∧ p ≤ t) ∧ (∀ I1 : Nat → Nat → Int32, (wrL (itLP t τ p) t τ I1 ∧ fr lFr2 M.2.2.1 I1) → Φ (some (.int (okB (itLP t τ p)))) (M.1, M.2.1, I1, M.2.2.2)))))))
  | _ => False
set_option maxHeartbeats 4000000 in
theorem mnX10_readLine {Ω : mj_Om} {l : Launch} {d : Nat} {Φ : Option Value → mj_M → Prop} (hd : 7 ≤ d) (t : Nat) (τ : Nat → Int32) (p : Nat) (I : Nat → Nat → Int32) (J : Nat → Nat → Int64) (hp : TC I t τ ∧ I 1 2 = nI p ∧ p ≤ t) (h : ∀ I1 : Nat → Nat → Int32, (wrL (itLP t τ p) t τ I1 ∧ fr lFr2 I I1) → Φ (some (.int (okB (itLP t τ p)))) (mk I1 J)) : mj_Met Ω l false mX10_readLine d 0 0 [.ref 11] (mk I J) Φ := by
  refine inX10_readLine hd I J ?_
  refine ⟨⟨by trivial, by trivial, by trivial, by trivial, by trivial, mj_isk_mk _ _⟩, t, τ, p, hp, fun A hA => ?_⟩
  obtain ⟨⟨a1, a2⟩, a3⟩ := hA
  have aF : fr lFr2 I A := fr_mo a3 (fun c k w => by unfold iFr at w; unfold lFr2; omega)
  cases hr : itLP t τ p with
  | error e =>
    rw [if_pos (show okB (Except.error e : IR) = 0 from rfl)]
    have := h A ⟨⟨fun e' h' => a1 e' h', fun q h' => by rw [hr] at h'; cases h'⟩, aF⟩
    rw [hr] at this
    exact this
  | ok y =>
    rw [if_neg (show ¬ okB (Except.ok y : IR) = 0 by show ¬ (1 : Int32) = 0; decide)]
    obtain ⟨⟨a, b1, b2, b3⟩, b4⟩ := a2 y hr
    have := h (mj_uc A 14 (va_cpy (A 12) (A 14) 0 0 7)) ⟨⟨fun e' h' => by rw [hr] at h'; (cases h'), fun q h' => by
      rw [hr] at h'
      cases h'
      refine ⟨⟨a, b1, by rw [mj_uc_ne (by decide)]; exact b2, b3⟩, fun j hj => ?_⟩
      rw [mj_uc_self]
      unfold va_cpy
      rw [if_pos ⟨Nat.zero_le _, by omega⟩, Nat.sub_zero, Nat.zero_add]
      exact b4 j hj⟩, fun c k w => by rw [mj_uc_ne (fun z => w (Or.inr (Or.inr z)))]; exact aF c k w⟩
    rw [hr] at this
    exact this
theorem sdX10_readLine : mj_Sd mX10_readLine 7 tX10_readLine := by
  intro Ω l d hd as M Φ h
  unfold tX10_readLine at h
  split at h
  · rename_i z_this
    obtain ⟨⟨rfl, hM⟩, t, τ, p, hp, h⟩ := h
    rw [mj_isk_of hM]
    exact mnX10_readLine hd t τ p _ _ hp (by
      rw [mj_isk_of hM] at h
      exact h)
  · exact h.elim
def csJ1_indexOfChar_4cfefB : List (Nat × Nat × Nat × mj_PT) := []
theorem csJ1_indexOfChar_4cfefB_ok : mj_Cs mJ1_indexOfChar_4cfef 1 csJ1_indexOfChar_4cfefB := mj_Cs0
def cutJ1_indexOfChar_4cfefB : List (Nat × List Bool) := [(7, [true, true, true, true, true, true])]
set_option maxRecDepth 100000 in
set_option maxHeartbeats 4000000 in
theorem inJ1_indexOfChar_4cfefB {Ω : mj_Om} {l : Launch} {d : Nat} {Φ : Option Value → mj_M → Prop} (hd : 1 ≤ d) (c : Int32) (f : Int32) (m : Int32) (I : Nat → Nat → Int32) (J : Nat → Nat → Int64)
    (h : ((mj_G Ω l false mJ1_indexOfChar_4cfef d 0 0 Φ 0 0 7 ([some (.ref 1021), some (.int c), some (.int f), some (.int m), some (.int ((c).toInt8.toInt32)), some (.int f)], [], (mk I J))))) :
    mj_Met Ω l false mJ1_indexOfChar_4cfef d 0 0 [.ref 1021, .int c, .int f, .int m] (mk I J) Φ := mj_entry (by decide) rfl (fun h => (by cases h)) (Nat.le_of_ble_eq_true rfl) (mj_blk (μ := mJ1_indexOfChar_4cfef) (P := pJ1_indexOfChar_4cfef) (cut := cutJ1_indexOfChar_4cfefB) (cs := csJ1_indexOfChar_4cfefB) dJ1_indexOfChar_4cfef csJ1_indexOfChar_4cfefB_ok hd 20 0 _ h)
set_option maxRecDepth 100000 in
set_option maxHeartbeats 4000000 in
theorem bJ1_indexOfChar_4cfefB_7 {Ω : mj_Om} {l : Launch} {d : Nat} {Φ : Option Value → mj_M → Prop} (hd : 1 ≤ d) (x1 : Int32) (x2 : Int32) (x3 : Int32) (x4 : Int32) (x5 : Int32) (I : Nat → Nat → Int32) (J : Nat → Nat → Int64)
    (h : ((if x5 < x3 then (mj_gd (mj_inB x5 6) (if (([120, 121, 118, 109, 122, 114] : List Int32).getD (x5).toNatClampNeg 0) = x4 then (Φ (some (.int x5)) (mk I J)) else (mj_G Ω l false mJ1_indexOfChar_4cfef d 0 0 Φ 0 0 7 ([some (.ref 1021), some (.int x1), some (.int x2), some (.int x3), some (.int x4), some (.int (x5 + (1 : Int32)))], [], (mk I J))))) else (Φ (some (.int (-1 : Int32))) (mk I J))))) :
    mj_G Ω l false mJ1_indexOfChar_4cfef d 0 0 Φ 0 0 7 ([some (.ref 1021), some (.int x1), some (.int x2), some (.int x3), some (.int x4), some (.int x5)], [], mk I J) := mj_blk (μ := mJ1_indexOfChar_4cfef) (P := pJ1_indexOfChar_4cfef) (cut := cutJ1_indexOfChar_4cfefB) (cs := csJ1_indexOfChar_4cfefB) dJ1_indexOfChar_4cfef csJ1_indexOfChar_4cfefB_ok hd 20 7 _ h
def tJ1_indexOfChar_4cfefB : mj_PT := fun as M Φ => match as with
  | [.ref a_, .int c, .int f, .int m] => ((a_ = 1021 ∧ mj_isk M) ∧ ((f = 0 ∧ m = 6) ∧ Φ (some (.int (ixF [120, 121, 118, 109, 122, 114] ((c).toInt8.toInt32) 6 0))) M))
  | _ => False
set_option maxHeartbeats 4000000 in
theorem mnJ1_indexOfChar_4cfefB {Ω : mj_Om} {l : Launch} {d : Nat} {Φ : Option Value → mj_M → Prop} (hd : 1 ≤ d) (c : Int32) (f : Int32) (m : Int32) (I : Nat → Nat → Int32) (J : Nat → Nat → Int64) (hp : f = 0 ∧ m = 6) (h : Φ (some (.int (ixF [120, 121, 118, 109, 122, 114] ((c).toInt8.toInt32) 6 0))) (mk I J)) : mj_Met Ω l false mJ1_indexOfChar_4cfef d 0 0 [.ref 1021, .int c, .int f, .int m] (mk I J) Φ := by
  refine inJ1_indexOfChar_4cfefB hd c f m I J ?_
  obtain ⟨rfl, rfl⟩ := hp
  have key : ∀ (f i : Nat), i + f = 6 → (Φ (some (.int (ixF [120, 121, 118, 109, 122, 114] (c.toInt8.toInt32) f i))) (mk I J)) → mj_G Ω l false mJ1_indexOfChar_4cfef d 0 0 Φ 0 0 7 ([some (.ref 1021), some (.int c), some (.int 0), some (.int 6), some (.int (c.toInt8.toInt32)), some (.int (nI i))], [], mk I J) := by
    intro f
    induction f with
    | zero =>
      intro i hi hh
      refine bJ1_indexOfChar_4cfefB_7 hd c 0 6 (c.toInt8.toInt32) (nI i) I J ?_
      rw [show (6 : Int32) = nI 6 from rfl, if_neg (nnl (a := i) (b := 6) (by omega) (by omega))]
      exact hh
    | succ f ih =>
      intro i hi hh
      refine bJ1_indexOfChar_4cfefB_7 hd c 0 6 (c.toInt8.toInt32) (nI i) I J ?_
      rw [show (6 : Int32) = nI 6 from rfl, if_pos (nlt (a := i) (b := 6) (by omega) (by omega))]
      simp (disch := omega) only [jn_in, jn_cl, gd_dec, jn_succ]
      rw [ixF] at hh
      by_cases q : ([120, 121, 118, 109, 122, 114] : List Int32).getD i 0 = c.toInt8.toInt32
      · rw [if_pos q] at hh ⊢; exact hh
      · rw [if_neg q] at hh ⊢; exact ih (i + 1) (by omega) hh
  exact key 6 0 (by omega) h
theorem sdJ1_indexOfChar_4cfefB : mj_Sd mJ1_indexOfChar_4cfef 1 tJ1_indexOfChar_4cfefB := by
  intro Ω l d hd as M Φ h
  unfold tJ1_indexOfChar_4cfefB at h
  split at h
  · rename_i z_a c f m
    obtain ⟨⟨rfl, hM⟩, hp, h⟩ := h
    rw [mj_isk_of hM]
    exact mnJ1_indexOfChar_4cfefB hd c f m _ _ hp (by
      rw [mj_isk_of hM] at h
      exact h)
  · exact h.elim
def csJ1_indexOf_4cfefB : List (Nat × Nat × Nat × mj_PT) := [(38, 1, 2, mj_ptmn), (88, 1, 1, tJ1_canEncode_9a6ad), (92, 1, 2, mj_ptmx), (95, 1, 4, tJ1_indexOfChar_4cfefB)]
theorem csJ1_indexOf_4cfefB_ok : mj_Cs mJ1_indexOf_4cfef 2 csJ1_indexOf_4cfefB := (mj_Csmn (Nat.le_of_ble_eq_true rfl) l15_38 (mj_CsS (D' := 1) sdJ1_canEncode_9a6ad (Nat.le_of_ble_eq_true rfl) fJ1_canEncode_9a6ad sJ1_canEncode_9a6ad (by decide +kernel) l15_88 (mj_Csmx (Nat.le_of_ble_eq_true rfl) l15_92 (mj_CsS (D' := 1) sdJ1_indexOfChar_4cfefB (Nat.le_of_ble_eq_true rfl) fJ1_indexOfChar_4cfef sJ1_indexOfChar_4cfef (by decide +kernel) l15_95 mj_Cs0))))
def cutJ1_indexOf_4cfefB : List (Nat × List Bool) := []
set_option maxRecDepth 100000 in
set_option maxHeartbeats 4000000 in
theorem inJ1_indexOf_4cfefB {Ω : mj_Om} {l : Launch} {d : Nat} {Φ : Option Value → mj_M → Prop} (hd : 2 ≤ d) (c : Int32) (f : Int32) (m : Int32) (I : Nat → Nat → Int32) (J : Nat → Nat → Int64)
    (h : ((if c < (0 : Int32) then (Φ (some (.int (-1 : Int32))) (mk I J)) else (if (255 : Int32) < c then (Φ (some (.int (-1 : Int32))) (mk I J)) else (if (if f < (0 : Int32) then (0 : Int32) else f) < (if (6 : Int32) < m then (6 : Int32) else m) then ((1021 = 1021 ∧ mj_isk (mk I J)) ∧ (((if f < (0 : Int32) then (0 : Int32) else f) = 0 ∧ (if (6 : Int32) < m then (6 : Int32) else m) = 6) ∧ (Φ (some (.int (ixF [120, 121, 118, 109, 122, 114] ((c).toInt8.toInt32) 6 0))) (mk I J)))) else (Φ (some (.int (-1 : Int32))) (mk I J))))))) :
    mj_Met Ω l false mJ1_indexOf_4cfef d 0 0 [.ref 1021, .int c, .int f, .int m] (mk I J) Φ := mj_entry (by decide) rfl (fun h => (by cases h)) (Nat.le_of_ble_eq_true rfl) (mj_blk (μ := mJ1_indexOf_4cfef) (P := pJ1_indexOf_4cfef) (cut := cutJ1_indexOf_4cfefB) (cs := csJ1_indexOf_4cfefB) dJ1_indexOf_4cfef csJ1_indexOf_4cfefB_ok hd 26 0 _ h)
def tJ1_indexOf_4cfefB : mj_PT := fun as M Φ => match as with
  | [.ref a_, .int c, .int f, .int m] => ((a_ = 1021 ∧ mj_isk M) ∧ ((f = 0 ∧ m = 6 ∧ 0 ≤ (c).toInt ∧ (c).toInt ≤ 255) ∧ Φ (some (.int (ixF [120, 121, 118, 109, 122, 114] ((c).toInt8.toInt32) 6 0))) M))
  | _ => False
theorem mnJ1_indexOf_4cfefB {Ω : mj_Om} {l : Launch} {d : Nat} {Φ : Option Value → mj_M → Prop} (hd : 2 ≤ d) (c : Int32) (f : Int32) (m : Int32) (I : Nat → Nat → Int32) (J : Nat → Nat → Int64) (hp : f = 0 ∧ m = 6 ∧ 0 ≤ (c).toInt ∧ (c).toInt ≤ 255) (h : Φ (some (.int (ixF [120, 121, 118, 109, 122, 114] ((c).toInt8.toInt32) 6 0))) (mk I J)) : mj_Met Ω l false mJ1_indexOf_4cfef d 0 0 [.ref 1021, .int c, .int f, .int m] (mk I J) Φ := by
  refine inJ1_indexOf_4cfefB hd c f m I J ?_
  obtain ⟨rfl, rfl, h1, h2⟩ := hp
  rw [if_neg (show ¬ c < 0 by rw [Int32.lt_iff_toInt_lt, i_0]; omega), if_neg (show ¬ (255 : Int32) < c by rw [Int32.lt_iff_toInt_lt, show (255 : Int32).toInt = 255 from rfl]; omega)]
  have e1 : (if (0 : Int32) < 0 then (0 : Int32) else 0) = 0 := by decide
  have e2 : (if (6 : Int32) < 6 then (6 : Int32) else 6) = 6 := by decide
  rw [e1, e2, if_pos (by decide)]
  exact ⟨⟨by trivial, mj_isk_mk _ _⟩, ⟨rfl, rfl⟩, h⟩
theorem sdJ1_indexOf_4cfefB : mj_Sd mJ1_indexOf_4cfef 2 tJ1_indexOf_4cfefB := by
  intro Ω l d hd as M Φ h
  unfold tJ1_indexOf_4cfefB at h
  split at h
  · rename_i z_a c f m
    obtain ⟨⟨rfl, hM⟩, hp, h⟩ := h
    rw [mj_isk_of hM]
    exact mnJ1_indexOf_4cfefB hd c f m _ _ hp (by
      rw [mj_isk_of hM] at h
      exact h)
  · exact h.elim
def csJ0_indexOf_7cf53B : List (Nat × Nat × Nat × mj_PT) := [(492, 0, 1, mj_rcS tJ0_isLatin1_aae02), (505, 0, 1, mj_rcS tJ0_length_8abf5), (637, 1, 4, tJ1_indexOf_4cfefB)]
theorem csJ0_indexOf_7cf53B_ok : mj_Cs mJ0_indexOf_7cf53 3 csJ0_indexOf_7cf53B := (mj_CsVS (D' := 1) sdJ0_isLatin1_aae02 (Nat.le_of_ble_eq_true rfl) fJ0_isLatin1_aae02 rfl iJ0_isLatin1_aae02 vJ0_isLatin1_aae02 (by decide +kernel) l14_492 (mj_CsVS (D' := 2) sdJ0_length_8abf5 (Nat.le_of_ble_eq_true rfl) fJ0_length_8abf5 rfl iJ0_length_8abf5 vJ0_length_8abf5 (by decide +kernel) l14_505 (mj_CsS (D' := 2) sdJ1_indexOf_4cfefB (Nat.le_of_ble_eq_true rfl) fJ1_indexOf_4cfef sJ1_indexOf_4cfef (by decide +kernel) l14_637 mj_Cs0)))
def cutJ0_indexOf_7cf53B : List (Nat × List Bool) := []
set_option maxRecDepth 100000 in
set_option maxHeartbeats 4000000 in
theorem inJ0_indexOf_7cf53B {Ω : mj_Om} {l : Launch} {d : Nat} {Φ : Option Value → mj_M → Prop} (hd : 3 ≤ d) (c : Int32) (f : Int32) (I : Nat → Nat → Int32) (J : Nat → Nat → Int64)
    (h : (((1021 = 1021 ∧ mj_isk (mk I J)) ∧ ((f = 0 ∧ ((6 : Int32) >>> ((0 : Int32) &&& 31)) = 6 ∧ 0 ≤ (c).toInt ∧ (c).toInt ≤ 255) ∧ (Φ (some (.int (ixF [120, 121, 118, 109, 122, 114] ((c).toInt8.toInt32) 6 0))) (mk I J)))))) :
    mj_Met Ω l false mJ0_indexOf_7cf53 d 0 0 [.ref 1011, .int c, .int f] (mk I J) Φ := mj_entry (by decide) rfl (fun h => (by cases h)) (Nat.le_of_ble_eq_true rfl) (mj_blk (μ := mJ0_indexOf_7cf53) (P := pJ0_indexOf_7cf53) (cut := cutJ0_indexOf_7cf53B) (cs := csJ0_indexOf_7cf53B) dJ0_indexOf_7cf53 csJ0_indexOf_7cf53B_ok hd 20 0 _ h)
def tJ0_indexOf_7cf53B : mj_PT := fun as M Φ => match as with
  | [.ref this, .int c, .int f] => ((this = 1011 ∧ mj_isk M) ∧ ((f = 0 ∧ 0 ≤ (c).toInt ∧ (c).toInt ≤ 255) ∧ Φ (some (.int (ixF [120, 121, 118, 109, 122, 114] ((c).toInt8.toInt32) 6 0))) M))
  | _ => False
theorem mnJ0_indexOf_7cf53B {Ω : mj_Om} {l : Launch} {d : Nat} {Φ : Option Value → mj_M → Prop} (hd : 3 ≤ d) (c : Int32) (f : Int32) (I : Nat → Nat → Int32) (J : Nat → Nat → Int64) (hp : f = 0 ∧ 0 ≤ (c).toInt ∧ (c).toInt ≤ 255) (h : Φ (some (.int (ixF [120, 121, 118, 109, 122, 114] ((c).toInt8.toInt32) 6 0))) (mk I J)) : mj_Met Ω l false mJ0_indexOf_7cf53 d 0 0 [.ref 1011, .int c, .int f] (mk I J) Φ := by
  refine inJ0_indexOf_7cf53B hd c f I J ?_
  obtain ⟨rfl, h1, h2⟩ := hp
  exact ⟨⟨by trivial, mj_isk_mk _ _⟩, ⟨rfl, by decide, h1, h2⟩, h⟩
theorem sdJ0_indexOf_7cf53B : mj_Sd mJ0_indexOf_7cf53 3 tJ0_indexOf_7cf53B := by
  intro Ω l d hd as M Φ h
  unfold tJ0_indexOf_7cf53B at h
  split at h
  · rename_i z_this c f
    obtain ⟨⟨rfl, hM⟩, hp, h⟩ := h
    rw [mj_isk_of hM]
    exact mnJ0_indexOf_7cf53B hd c f _ _ hp (by
      rw [mj_isk_of hM] at h
      exact h)
  · exact h.elim
def csJ0_indexOf_0f7a4B : List (Nat × Nat × Nat × mj_PT) := [(633, 0, 3, mj_rcS tJ0_indexOf_7cf53B)]
theorem csJ0_indexOf_0f7a4B_ok : mj_Cs mJ0_indexOf_0f7a4 4 csJ0_indexOf_0f7a4B := (mj_CsVS (D' := 3) sdJ0_indexOf_7cf53B (Nat.le_of_ble_eq_true rfl) fJ0_indexOf_7cf53 rfl iJ0_indexOf_7cf53 vJ0_indexOf_7cf53 (by decide +kernel) l14_633 mj_Cs0)
def cutJ0_indexOf_0f7a4B : List (Nat × List Bool) := []
set_option maxRecDepth 100000 in
set_option maxHeartbeats 4000000 in
theorem inJ0_indexOf_0f7a4B {Ω : mj_Om} {l : Launch} {d : Nat} {Φ : Option Value → mj_M → Prop} (hd : 4 ≤ d) (c : Int32) (I : Nat → Nat → Int32) (J : Nat → Nat → Int64)
    (h : (((1011 = 1011 ∧ mj_isk (mk I J)) ∧ (((0 : Int32) = 0 ∧ 0 ≤ (c).toInt ∧ (c).toInt ≤ 255) ∧ (Φ (some (.int (ixF [120, 121, 118, 109, 122, 114] ((c).toInt8.toInt32) 6 0))) (mk I J)))))) :
    mj_Met Ω l false mJ0_indexOf_0f7a4 d 0 0 [.ref 1011, .int c] (mk I J) Φ := mj_entry (by decide) rfl (fun h => (by cases h)) (Nat.le_of_ble_eq_true rfl) (mj_blk (μ := mJ0_indexOf_0f7a4) (P := pJ0_indexOf_0f7a4) (cut := cutJ0_indexOf_0f7a4B) (cs := csJ0_indexOf_0f7a4B) dJ0_indexOf_0f7a4 csJ0_indexOf_0f7a4B_ok hd 6 0 _ h)
def tJ0_indexOf_0f7a4B : mj_PT := fun as M Φ => match as with
  | [.ref this, .int c] => ((this = 1011 ∧ mj_isk M) ∧ ((0 ≤ (c).toInt ∧ (c).toInt ≤ 255) ∧ Φ (some (.int (ixF [120, 121, 118, 109, 122, 114] ((c).toInt8.toInt32) 6 0))) M))
  | _ => False
theorem mnJ0_indexOf_0f7a4B {Ω : mj_Om} {l : Launch} {d : Nat} {Φ : Option Value → mj_M → Prop} (hd : 4 ≤ d) (c : Int32) (I : Nat → Nat → Int32) (J : Nat → Nat → Int64) (hp : 0 ≤ (c).toInt ∧ (c).toInt ≤ 255) (h : Φ (some (.int (ixF [120, 121, 118, 109, 122, 114] ((c).toInt8.toInt32) 6 0))) (mk I J)) : mj_Met Ω l false mJ0_indexOf_0f7a4 d 0 0 [.ref 1011, .int c] (mk I J) Φ := by
  refine inJ0_indexOf_0f7a4B hd c I J ?_
  exact ⟨⟨by trivial, mj_isk_mk _ _⟩, ⟨rfl, hp.1, hp.2⟩, h⟩
theorem sdJ0_indexOf_0f7a4B : mj_Sd mJ0_indexOf_0f7a4 4 tJ0_indexOf_0f7a4B := by
  intro Ω l d hd as M Φ h
  unfold tJ0_indexOf_0f7a4B at h
  split at h
  · rename_i z_this c
    obtain ⟨⟨rfl, hM⟩, hp, h⟩ := h
    rw [mj_isk_of hM]
    exact mnJ0_indexOf_0f7a4B hd c _ _ hp (by
      rw [mj_isk_of hM] at h
      exact h)
  · exact h.elim
def csX8_indexInB : List (Nat × Nat × Nat × mj_PT) := [(33, 0, 2, mj_rcS tJ0_indexOf_0f7a4B)]
theorem csX8_indexInB_ok : mj_Cs mX8_indexIn 5 csX8_indexInB := (mj_CsVS (D' := 4) sdJ0_indexOf_0f7a4B (Nat.le_of_ble_eq_true rfl) fJ0_indexOf_0f7a4 rfl iJ0_indexOf_0f7a4 vJ0_indexOf_0f7a4 (by decide +kernel) l8_33 mj_Cs0)
def cutX8_indexInB : List (Nat × List Bool) := []
set_option maxRecDepth 100000 in
set_option maxHeartbeats 4000000 in
theorem inX8_indexInB {Ω : mj_Om} {l : Launch} {d : Nat} {Φ : Option Value → mj_M → Prop} (hd : 5 ≤ d) (s : Int32) (I : Nat → Nat → Int32) (J : Nat → Nat → Int64)
    (h : ((if s < (1 : Int32) then (Φ (some (.int (-1 : Int32))) (mk I J)) else ((1011 = 1011 ∧ mj_isk (mk I J)) ∧ ((0 ≤ ((((s).toUInt32 % 65536).toInt32)).toInt ∧ ((((s).toUInt32 % 65536).toInt32)).toInt ≤ 255) ∧ (Φ (some (.int (ixF [120, 121, 118, 109, 122, 114] (((((s).toUInt32 % 65536).toInt32)).toInt8.toInt32) 6 0))) (mk I J))))))) :
    mj_Met Ω l false mX8_indexIn d 0 0 [.ref 1011, .int s] (mk I J) Φ := mj_entry (by decide) rfl (fun h => (by cases h)) (Nat.le_of_ble_eq_true rfl) (mj_blk (μ := mX8_indexIn) (P := pX8_indexIn) (cut := cutX8_indexInB) (cs := csX8_indexInB) dX8_indexIn csX8_indexInB_ok hd 11 0 _ h)
def tX8_indexInB : mj_PT := fun as M Φ => match as with
  | [.ref l_, .int s] => ((l_ = 1011 ∧ mj_isk M) ∧ ((-1 ≤ (s).toInt ∧ (s).toInt ≤ 255) ∧ Φ (some (.int (itB s))) M))
  | _ => False
set_option maxHeartbeats 4000000 in
theorem mnX8_indexInB {Ω : mj_Om} {l : Launch} {d : Nat} {Φ : Option Value → mj_M → Prop} (hd : 5 ≤ d) (s : Int32) (I : Nat → Nat → Int32) (J : Nat → Nat → Int64) (hp : -1 ≤ (s).toInt ∧ (s).toInt ≤ 255) (h : Φ (some (.int (itB s))) (mk I J)) : mj_Met Ω l false mX8_indexIn d 0 0 [.ref 1011, .int s] (mk I J) Φ := by
  refine inX8_indexInB hd s I J ?_
  by_cases q : s < 1
  · rw [if_pos q]
    have hs : s.toInt < 1 := by rw [Int32.lt_iff_toInt_lt, i_1] at q; exact q
    have e : s = -1 ∨ s = 0 := by
      rcases (by omega : s.toInt = -1 ∨ s.toInt = 0) with z | z
      · left; exact Int32.toInt_inj.mp z
      · right; exact Int32.toInt_inj.mp z
    rcases e with rfl | rfl
    · exact h
    · exact h
  · rw [if_neg q]
    have hs : 1 ≤ s.toInt := by rw [Int32.lt_iff_toInt_lt, i_1] at q; omega
    have e : s = nI s.toNatClampNeg := jn_of (by rw [Int32.le_iff_toInt_le, i_0]; omega)
    have hk : s.toNatClampNeg < 256 ∧ 0 < s.toNatClampNeg := by
      have e2 : s.toInt = (s.toNatClampNeg : Int) := by
        have := congrArg Int32.toInt e
        rw [jn_toInt (cl_lt s)] at this
        exact this
      omega
    have e3 : (s.toUInt32 % 65536).toInt32 = s := by rw [e]; exact i2c_256 _ hk.1
    have e4 := ix_B s.toNatClampNeg hk.1 hk.2
    rw [← e] at e4
    rw [e3]
    refine ⟨⟨by trivial, mj_isk_mk _ _⟩, ⟨by omega, hp.2⟩, ?_⟩
    rw [e4]
    exact h
theorem sdX8_indexInB : mj_Sd mX8_indexIn 5 tX8_indexInB := by
  intro Ω l d hd as M Φ h
  unfold tX8_indexInB at h
  split at h
  · rename_i z_l s
    obtain ⟨⟨rfl, hM⟩, hp, h⟩ := h
    rw [mj_isk_of hM]
    exact mnX8_indexInB hd s _ _ hp (by
      rw [mj_isk_of hM] at h
      exact h)
  · exact h.elim
def csX10_readItemsB : List (Nat × Nat × Nat × mj_PT) := [(57, 0, 1, mj_rcv 8 tX8_nextSign), (94, 1, 5, mj_ptcp), (115, 0, 1, mj_rcS tJ0_length_8abf5), (119, 1, 2, tX8_indexInB), (123, 0, 2, mj_rcv 8 tX8_takeNumber)]
theorem csX10_readItemsB_ok : mj_Cs mX10_readItems 6 csX10_readItemsB := (mj_CsV (D' := 1) (ci := 8) (q := (RX8, TX8, 3)) sdX8_nextSign (Nat.le_of_ble_eq_true rfl) fX8_nextSign rfl rfl iX8_nextSign vX8_nextSign (by decide +kernel) l10_57 (mj_CsCp (Nat.le_of_ble_eq_true rfl) (mj_gw_in (by decide +kernel)) (mj_CsVS (D' := 2) sdJ0_length_8abf5 (Nat.le_of_ble_eq_true rfl) fJ0_length_8abf5 rfl iJ0_length_8abf5 vJ0_length_8abf5 (by decide +kernel) l10_115 (mj_CsS (D' := 5) sdX8_indexInB (Nat.le_of_ble_eq_true rfl) fX8_indexIn sX8_indexIn (by decide +kernel) l10_119 (mj_CsV (D' := 2) (ci := 8) (q := (RX8, TX8, 3)) sdX8_takeNumber (Nat.le_of_ble_eq_true rfl) fX8_takeNumber rfl rfl iX8_takeNumber vX8_takeNumber (by decide +kernel) l10_123 mj_Cs0)))))
def cutX10_readItemsB : List (Nat × List Bool) := [(20, [true, true, true, true, true, true, true, false, false]), (60, [true, true, true, true, true, true, true, true, false])]
def pX10_readItemsB_0 : List (Nat × Instr × Nat) := [(0, .aload 4, 2), (2, .iconst 0, 1), (3, .aload_n 0, 1), (4, .getfield 11, 3), (7, .iconst 0, 1), (8, .aload 4, 2), (10, .arraylength, 1), (11, .invokestatic 94, 3), (14, .iconst 0, 1), (15, .istore 5, 2), (17, .iconst 0, 1), (18, .istore 6, 2), (20, .iload 6, 2)]
set_option maxRecDepth 100000 in
theorem dX10_readItemsB_0 : mj_pd cX10_readItems pX10_readItemsB_0 := mj_pdB (by decide +kernel)
set_option maxRecDepth 100000 in
set_option maxHeartbeats 4000000 in
theorem inX10_readItemsB {Ω : mj_Om} {l : Launch} {d : Nat} {Φ : Option Value → mj_M → Prop} (hd : 6 ≤ d) (I : Nat → Nat → Int32) (J : Nat → Nat → Int64)
    (h : ((mj_G Ω l false mX10_readItems d 0 0 Φ 0 0 20 ([some (.ref 11), some (.ref 1011), some (.ref 1003), some (.ref 1004), some (.ref 1005), some (.int (0 : Int32)), some (.int (0 : Int32)), none, none], [], (mk (mj_uc I 12 (va_cpy (fun j => ([0, 5, 0, 2, 5, 4] : List Int32).getD j 0) (I 12) 0 0 6)) J))))) :
    mj_Met Ω l false mX10_readItems d 0 0 [.ref 11, .ref 1011, .ref 1003, .ref 1004, .ref 1005] (mk I J) Φ := mj_entry (by decide) rfl (fun h => (by cases h)) (Nat.le_of_ble_eq_true rfl) (mj_blk (μ := mX10_readItems) (P := pX10_readItemsB_0) (cut := cutX10_readItemsB) (cs := csX10_readItemsB) dX10_readItemsB_0 csX10_readItemsB_ok hd 14 0 _ h)
def pX10_readItemsB_20 : List (Nat × Instr × Nat) := [(20, .iload 6, 2), (22, .aload_n 1, 1), (23, .invokevirtual 115, 3), (26, .if_icmp .ge 122, 3), (29, .aload_n 1, 1), (30, .aload_n 0, 1), (31, .getfield 29, 3), (34, .invokevirtual 57, 3), (37, .invokestatic 119, 3), (40, .istore 7, 2), (42, .iload 7, 2), (44, .ifCond .lt 14, 3), (47, .iload 5, 2), (49, .iload 7, 2), (51, .ishr, 1), (52, .iconst 1, 1), (53, .iand, 1), (54, .iconst 1, 1), (55, .if_icmp .ne 5, 3), (58, .iconst 1, 1), (59, .ireturn, 1), (60, .iload 5, 2), (148, .iconst 1, 1), (149, .ireturn, 1)]
set_option maxRecDepth 100000 in
theorem dX10_readItemsB_20 : mj_pd cX10_readItems pX10_readItemsB_20 := mj_pdB (by decide +kernel)
set_option maxRecDepth 100000 in
set_option maxHeartbeats 4000000 in
theorem bX10_readItemsB_20 {Ω : mj_Om} {l : Launch} {d : Nat} {Φ : Option Value → mj_M → Prop} (hd : 6 ≤ d) (x5 : Int32) (x6 : Int32) (I : Nat → Nat → Int32) (J : Nat → Nat → Int64)
    (h : ((if x6 < ((6 : Int32) >>> ((0 : Int32) &&& 31)) then ((1 = 1 ∧ mj_isk (mk I J)) ∧ (∃ t2608 : Nat, (∃ τ2609 : Nat → Int32, (∃ p2610 : Nat, ((TC I t2608 τ2609 ∧ I 1 2 = nI p2610 ∧ p2610 ≤ t2608) ∧ (∀ I2611 : Nat → Nat → Int32, (I2611 1 2 = nI (skp t2608 τ2609 p2610) ∧ fr rFr I I2611) → ((1011 = 1011 ∧ mj_isk (mk I2611 J)) ∧ ((-1 ≤ ((nsg t2608 τ2609 p2610)).toInt ∧ ((nsg t2608 τ2609 p2610)).toInt ≤ 255) ∧ (if (itB (nsg t2608 τ2609 p2610)) < (0 : Int32) then (Φ (some (.int (1 : Int32))) (mk I2611 J)) else (if ((x5 >>> ((itB (nsg t2608 τ2609 p2610)) &&& 31)) &&& (1 : Int32)) = (1 : Int32) then (Φ (some (.int (1 : Int32))) (mk I2611 J)) else (mj_G Ω l false mX10_readItems d 0 0 Φ 0 0 60 ([some (.ref 11), some (.ref 1011), some (.ref 1003), some (.ref 1004), some (.ref 1005), some (.int x5), some (.int x6), some (.int (itB (nsg t2608 τ2609 p2610))), none], [], (mk I2611 J))))))))))))) else (Φ (some (.int (1 : Int32))) (mk I J))))) :
    mj_G Ω l false mX10_readItems d 0 0 Φ 0 0 20 ([some (.ref 11), some (.ref 1011), some (.ref 1003), some (.ref 1004), some (.ref 1005), some (.int x5), some (.int x6), none, none], [], mk I J) := mj_blk (μ := mX10_readItems) (P := pX10_readItemsB_20) (cut := cutX10_readItemsB) (cs := csX10_readItemsB) dX10_readItemsB_20 csX10_readItemsB_ok hd 25 20 _ h
def pX10_readItemsB_60 : List (Nat × Instr × Nat) := [(20, .iload 6, 2), (60, .iload 5, 2), (62, .iconst 1, 1), (63, .iload 7, 2), (65, .ishl, 1), (66, .ior, 1), (67, .istore 5, 2), (69, .aload_n 0, 1), (70, .getfield 29, 3), (73, .dup, 1), (74, .getfield 49, 3), (77, .iconst 1, 1), (78, .iadd, 1), (79, .putfield 49, 3), (82, .aload_n 0, 1), (83, .getfield 29, 3), (86, .iconst 2, 1), (87, .invokevirtual 123, 3), (90, .istore 8, 2), (92, .iload 8, 2), (94, .iconst (-1), 1), (95, .if_icmp .ne 5, 3), (98, .iconst 0, 1), (99, .ireturn, 1), (100, .iload 8, 2), (102, .aload_n 2, 1), (103, .iload 7, 2), (105, .iaload, 1), (106, .if_icmp .lt 12, 3), (109, .iload 8, 2), (111, .aload_n 3, 1), (112, .iload 7, 2), (114, .iaload, 1), (115, .if_icmp .le 18, 3), (118, .aload_n 0, 1), (119, .getfield 29, 3), (122, .dup, 1), (123, .getfield 49, 3), (126, .iconst 1, 1), (127, .isub, 1), (128, .putfield 49, 3), (131, .iconst 0, 1), (132, .ireturn, 1), (133, .aload_n 0, 1), (134, .getfield 11, 3), (137, .iload 7, 2), (139, .iload 8, 2), (141, .iastore, 1), (142, .iinc 6 1, 3), (145, .goto (-125), 3)]
set_option maxRecDepth 100000 in
theorem dX10_readItemsB_60 : mj_pd cX10_readItems pX10_readItemsB_60 := mj_pdB (by decide +kernel)
set_option maxRecDepth 100000 in
set_option maxHeartbeats 4000000 in
theorem bX10_readItemsB_60 {Ω : mj_Om} {l : Launch} {d : Nat} {Φ : Option Value → mj_M → Prop} (hd : 6 ≤ d) (x5 : Int32) (x6 : Int32) (x7 : Int32) (I : Nat → Nat → Int32) (J : Nat → Nat → Int64)
    (h : (((1 = 1 ∧ mj_isk (mk (mj_ui I 1 2 ((I 1 2) + (1 : Int32))) J)) ∧ (∃ m2615 : Nat, (2 : Int32) = nI m2615 ∧ (∃ t2616 : Nat, (∃ τ2617 : Nat → Int32, (∃ p2618 : Nat, ((TC (mj_ui I 1 2 ((I 1 2) + (1 : Int32))) t2616 τ2617 ∧ (mj_ui I 1 2 ((I 1 2) + (1 : Int32))) 1 2 = nI p2618 ∧ p2618 ≤ t2616 ∧ m2615 ≤ 4) ∧ (∀ I2619 : Nat → Nat → Int32, (I2619 1 2 = nI (numA (numR t2616 τ2617 m2615 p2618)) ∧ fr rFr (mj_ui I 1 2 ((I 1 2) + (1 : Int32))) I2619) → (if (numV (numR t2616 τ2617 m2615 p2618)) = (-1 : Int32) then (Φ (some (.int (0 : Int32))) (mk I2619 J)) else (mj_gd (mj_inB x7 6) (if (numV (numR t2616 τ2617 m2615 p2618)) < (([0, 0, 0, 1, 0, 0] : List Int32).getD (x7).toNatClampNeg 0) then (Φ (some (.int (0 : Int32))) (mk (mj_ui I2619 1 2 ((I2619 1 2) - (1 : Int32))) J)) else (mj_gd (mj_inB x7 6) (if (([19, 19, 3, 3, 9, 4] : List Int32).getD (x7).toNatClampNeg 0) < (numV (numR t2616 τ2617 m2615 p2618)) then (Φ (some (.int (0 : Int32))) (mk (mj_ui I2619 1 2 ((I2619 1 2) - (1 : Int32))) J)) else (mj_gd (mj_inB x7 7) (mj_G Ω l false mX10_readItems d 0 0 Φ 0 0 20 ([some (.ref 11), some (.ref 1011), some (.ref 1003), some (.ref 1004), some (.ref 1005), some (.int (x5 ||| ((1 : Int32) <<< (x7 &&& 31)))), some (.int (x6 + (1 : Int32))), none, none], [], (mk (mj_ui I2619 12 (x7).toNatClampNeg (numV (numR t2616 τ2617 m2615 p2618))) J)))))))))))))))))) :
    mj_G Ω l false mX10_readItems d 0 0 Φ 0 0 60 ([some (.ref 11), some (.ref 1011), some (.ref 1003), some (.ref 1004), some (.ref 1005), some (.int x5), some (.int x6), some (.int x7), none], [], mk I J) := mj_blk (μ := mX10_readItems) (P := pX10_readItemsB_60) (cut := cutX10_readItemsB) (cs := csX10_readItemsB) dX10_readItemsB_60 csX10_readItemsB_ok hd 51 60 _ h
def tX10_readItemsB : mj_PT := fun as M Φ => match as with
  | [.ref this, .ref a_, .ref b_, .ref c_, .ref e_] => ((this = 11 ∧ a_ = 1011 ∧ b_ = 1003 ∧ c_ = 1004 ∧ e_ = 1005 ∧ mj_isk M) ∧ (∃ t : Nat, (∃ τ : Nat → Int32, (∃ p : Nat, ((TC M.2.2.1 t τ ∧ M.2.2.1 1 2 = nI p ∧ p ≤ t) ∧ (∀ I1 : Nat → Nat → Int32, (wrI 6 (itBP t τ p) t τ I1 ∧ fr iFr M.2.2.1 I1) → Φ (some (.int (okB (itBP t τ p)))) (M.1, M.2.1, I1, M.2.2.2)))))))
  | _ => False
set_option maxHeartbeats 16000000 in
theorem mnX10_readItemsB {Ω : mj_Om} {l : Launch} {d : Nat} {Φ : Option Value → mj_M → Prop} (hd : 6 ≤ d) (t : Nat) (τ : Nat → Int32) (p : Nat) (I : Nat → Nat → Int32) (J : Nat → Nat → Int64) (hp : TC I t τ ∧ I 1 2 = nI p ∧ p ≤ t) (h : ∀ I1 : Nat → Nat → Int32, (wrI 6 (itBP t τ p) t τ I1 ∧ fr iFr I I1) → Φ (some (.int (okB (itBP t τ p)))) (mk I1 J)) : mj_Met Ω l false mX10_readItems d 0 0 [.ref 11, .ref 1011, .ref 1003, .ref 1004, .ref 1005] (mk I J) Φ := by
  refine inX10_readItemsB hd I J ?_
  obtain ⟨hT, h1, hpt⟩ := hp
  have ht := hT.1.1
  have TA : ∀ A, fr iFr I A → TC A t τ := fun A hA => TC_fr hT (hA 1 1 (by unfold iFr; omega)) (fun k => hA 2 k (by unfold iFr; omega))
  have hE : ∀ (e : Nat) (A : Nat → Nat → Int32), itBP t τ p = .error e → fr iFr I A → A 1 2 = nI e → Φ (some (.int 0)) (mk A J) := fun e A he hf ha => by
    have := h A ⟨⟨fun e' h' => by rw [he] at h'; cases h'; exact ha, fun q h' => by rw [he] at h'; cases h'⟩, hf⟩
    rw [he] at this
    exact this
  have hO : ∀ (q : Nat × (Nat → Int32)) (A : Nat → Nat → Int32) (a : Nat), itBP t τ p = .ok q → fr iFr I A → a ≤ t → A 1 2 = nI a → skp t τ a = q.1 → (∀ j, j < 6 → A 12 j = q.2 j) → Φ (some (.int 1)) (mk A J) := fun q A a he hf ha1 ha2 ha3 hv => by
    have := h A ⟨⟨fun e' h' => by rw [he] at h'; (cases h'), fun q' h' => by rw [he] at h'; cases h'; exact ⟨⟨a, ha1, ha2, ha3⟩, hv⟩⟩, hf⟩
    rw [he] at this
    exact this
  have key : ∀ (f i q : Nat) (g : Int32) (V : Nat → Int32) (B : Nat → Nat → Int32), i + f = 6 → q ≤ t → B 1 2 = nI q → (∀ j, j < 6 → B 12 j = V j) → fr iFr I B → itBP t τ p = itP t τ itB loB hiB f q g V → mj_G Ω l false mX10_readItems d 0 0 Φ 0 0 20 ([some (.ref 11), some (.ref 1011), some (.ref 1003), some (.ref 1004), some (.ref 1005), some (.int g), some (.int (nI i)), none, none], [], mk B J) := by
    intro f
    induction f with
    | zero =>
      intro i q g V B hi hq b1 bV bF he
      refine bX10_readItemsB_20 hd g (nI i) B J ?_
      rw [show (6 : Int32) >>> (0 &&& 31) = nI 6 by decide, if_neg (nnl (a := i) (b := 6) (by omega) (by omega))]
      exact hO (skp t τ q, V) B q he bF hq b1 rfl bV
    | succ f ih =>
      intro i q g V B hi hq b1 bV bF he
      have k1 := skp_le (τ := τ) hq
      have k2 := skp_ge (t := t) (τ := τ) (p := q)
      rw [itP] at he
      refine bX10_readItemsB_20 hd g (nI i) B J ?_
      rw [show (6 : Int32) >>> (0 &&& 31) = nI 6 by decide, if_pos (nlt (a := i) (b := 6) (by omega) (by omega))]
      refine ⟨⟨by trivial, mj_isk_mk _ _⟩, t, τ, q, ⟨TA B bF, b1, hq⟩, fun C hC => ?_⟩
      have cF : fr iFr I C := fr_tr bF (fr_mo hC.2 (fun c k w => Or.inl w))
      have cV : ∀ j, j < 6 → C 12 j = V j := fun j hj => by rw [hC.2 12 j (by unfold rFr; omega)]; exact bV j hj
      refine ⟨⟨by trivial, mj_isk_mk _ _⟩, sg_b hT.1, ?_⟩
      by_cases s1 : itB (nsg t τ q) = -1
      · rw [if_pos (by rw [s1]; decide)]
        rw [if_pos (Or.inl s1)] at he
        exact hO (skp t τ q, V) C (skp t τ q) he cF k1 hC.1 skp_skp cV
      obtain ⟨j, hj, ej⟩ := itB_b s1
      rw [if_neg (it_neg ⟨j, by omega, ej⟩)]
      by_cases s2 : hasB g (itB (nsg t τ q))
      · rw [if_pos s2]
        rw [if_pos (Or.inr s2)] at he
        exact hO (skp t τ q, V) C (skp t τ q) he cF k1 hC.1 skp_skp cV
      rw [if_neg s2]
      rw [if_neg (fun w => w.elim s1 s2)] at he
      have h3 : skp t τ q + 1 ≤ t := nsg_p rfl (fun w => s1 (by rw [w]; decide))
      rw [ej] at he ⊢
      refine bX10_readItemsB_60 hd g (nI i) (nI j) C J ?_
      rw [hC.1, jn_succ]
      have dF : fr iFr I (mj_ui C 1 2 (nI (skp t τ q + 1))) := fr_ui cF (Or.inl ⟨rfl, rfl⟩)
      refine ⟨⟨by trivial, mj_isk_mk _ _⟩, 2, rfl, t, τ, skp t τ q + 1, ⟨TA _ dF, ui_s, h3, by decide⟩, fun D hD => ?_⟩
      have dF' : fr iFr I D := fr_tr dF (fr_mo hD.2 (fun c k w => Or.inl w))
      have dV : ∀ j, j < 6 → D 12 j = V j := fun j hj => by rw [hD.2 12 j (by unfold rFr; omega), ui_c (by decide)]; exact cV j hj
      obtain ⟨n1, n2⟩ := num2_ok (τ := τ) h3
      cases hn : numR t τ 2 (skp t τ q + 1) with
      | error e =>
        rw [hn] at he hD
        rw [if_pos (show numV (.error e) = -1 from rfl)]
        exact hE e D he dF' hD.1
      | ok y =>
        obtain ⟨y1, y2, y3⟩ := n2 y hn
        rw [hn] at he hD
        dsimp only at he
        rw [if_neg (show ¬ numV (.ok y) = -1 from nI_mm (by omega)), show numV (.ok y) = nI y.2 from rfl]
        obtain ⟨l1, l2, l3⟩ := loB_l j hj
        have em : D 1 2 - 1 = nI (y.1 - 1) := by rw [hD.1, show numA (.ok y) = y.1 from rfl]; exact jn_sub (b := 1) (by omega)
        simp (disch := omega) only [jn_in, jn_cl, gd_dec]
        rw [l1, l2]
        by_cases w1 : nI y.2 < loB (nI j)
        · rw [if_pos w1, em]
          rw [if_pos (Or.inl w1)] at he
          exact hE _ _ he (fr_ui dF' (Or.inl ⟨rfl, rfl⟩)) ui_s
        rw [if_neg w1]
        by_cases w2 : hiB (nI j) < nI y.2
        · rw [if_pos w2, em]
          rw [if_pos (Or.inr w2)] at he
          exact hE _ _ he (fr_ui dF' (Or.inl ⟨rfl, rfl⟩)) ui_s
        rw [if_neg w2, jn_succ]
        rw [if_neg (fun w => w.elim w1 w2), jn_cl (by omega)] at he
        refine ih (i + 1) y.1 _ _ _ (by omega) y2 (by rw [ui_c (by decide)]; exact hD.1) (fun j' hj' => ?_) (fr_ui dF' (Or.inr rfl)) he
        unfold vupd
        by_cases z : j' = j
        · rw [if_pos z, z, ui_s]
        · rw [if_neg z, ui_k z]; exact dV j' hj'
  refine key 6 0 p 0 usBV _ (by omega) hpt (by rw [mj_uc_ne (by decide)]; exact h1) (fun j hj => ?_) (fun c k w => ?_) rfl
  · rw [mj_uc_self]
    unfold va_cpy
    rw [if_pos ⟨Nat.zero_le _, by omega⟩]
    have := (loB_l j hj).2.2
    show _ = usBV j
    rw [Nat.sub_zero, Nat.zero_add]
    exact this
  · rw [mj_uc_ne (fun z => w (Or.inr z))]
theorem sdX10_readItemsB : mj_Sd mX10_readItems 6 tX10_readItemsB := by
  intro Ω l d hd as M Φ h
  unfold tX10_readItemsB at h
  split at h
  · rename_i z_this z_a z_b z_c z_e
    obtain ⟨⟨rfl, rfl, rfl, rfl, rfl, hM⟩, t, τ, p, hp, h⟩ := h
    rw [mj_isk_of hM]
    exact mnX10_readItemsB hd t τ p _ _ hp (by
      rw [mj_isk_of hM] at h
      exact h)
  · exact h.elim
