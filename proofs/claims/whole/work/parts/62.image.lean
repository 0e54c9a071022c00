/-! ===== image, back (by program, wip/whole/p62.py) ===== -/
noncomputable def imgV (n : Nat) (s : Int32) : Int32 := cif (0 < n) s (-1)
noncomputable def backV (x s : Int32) : Int32 := cif (x = 0) (-1) s
def csX11_image : List (Nat × Nat × Nat × mj_PT) := [(134, 0, 2, mj_rcv 3 tX3_copyFrom), (204, 0, 1, mj_rcv 11 tX11_hasWater)]
theorem csX11_image_ok : mj_Cs mX11_image 2 csX11_image := (mj_CsV (D' := 1) (ci := 3) (q := (RX3, TX3, 10)) sdX3_copyFrom (Nat.le_of_ble_eq_true rfl) fX3_copyFrom rfl rfl iX3_copyFrom vX3_copyFrom (by decide +kernel) l11_134 (mj_CsV (D' := 1) (ci := 11) (q := (RX11, TX11, 18)) sdX11_hasWater (Nat.le_of_ble_eq_true rfl) fX11_hasWater rfl rfl iX11_hasWater vX11_hasWater (by decide +kernel) l11_204 mj_Cs0))
def cutX11_image : List (Nat × List Bool) := []
set_option maxRecDepth 100000 in
set_option maxHeartbeats 4000000 in
theorem inX11_image {Ω : mj_Om} {l : Launch} {d : Nat} {Φ : Option Value → mj_M → Prop} (hd : 2 ≤ d) (I : Nat → Nat → Int32) (J : Nat → Nat → Int64)
    (h : ((if (0 : Int32) < (I 39 8) then ((isFG 66 39 ∧ mj_isk (mk I J)) ∧ ((okF I 39) ∧ (∀ I943 : Nat → Nat → Int32, (okF I943 66 ∧ nF I943 66 = nF I 39 ∧ VF I943 66 = VF I 39 ∧ I943 66 9 = I 39 9 ∧ fr (fun c _ => 66 ≤ c ∧ c ≤ 66 + 8) I I943) → (Φ (some (.int (I943 39 9))) (mk (mj_ui I943 0 16 (1 : Int32)) J))))) else (Φ (some (.int (-1 : Int32))) (mk I J))))) :
    mj_Met Ω l false mX11_image d 0 0 [.ref 0] (mk I J) Φ := mj_entry (by decide) rfl (fun h => (by cases h)) (Nat.le_of_ble_eq_true rfl) (mj_blk (μ := mX11_image) (P := pX11_image) (cut := cutX11_image) (cs := csX11_image) dX11_image csX11_image_ok hd 18 0 _ h)
def tX11_image : mj_PT := fun as M Φ => match as with
  | [.ref this] => ((this = 0 ∧ mj_isk M) ∧ ((okF M.2.2.1 39) ∧ (∀ I1 : Nat → Nat → Int32, ((0 < nF M.2.2.1 39 → okF I1 66 ∧ nF I1 66 = nF M.2.2.1 39 ∧ VF I1 66 = VF M.2.2.1 39 ∧ I1 66 9 = M.2.2.1 39 9 ∧ I1 0 16 = 1) ∧ (nF M.2.2.1 39 = 0 → M.2.2.1 = I1) ∧ fr (fun c k => (66 ≤ c ∧ c ≤ 74) ∨ (c = 0 ∧ k = 16)) M.2.2.1 I1) → Φ (some (.int (imgV (nF M.2.2.1 39) (M.2.2.1 39 9)))) (M.1, M.2.1, I1, M.2.2.2))))
  | _ => False
set_option maxHeartbeats 4000000 in
theorem mnX11_image {Ω : mj_Om} {l : Launch} {d : Nat} {Φ : Option Value → mj_M → Prop} (hd : 2 ≤ d) (I : Nat → Nat → Int32) (J : Nat → Nat → Int64) (hp : okF I 39) (h : ∀ I1 : Nat → Nat → Int32, ((0 < nF I 39 → okF I1 66 ∧ nF I1 66 = nF I 39 ∧ VF I1 66 = VF I 39 ∧ I1 66 9 = I 39 9 ∧ I1 0 16 = 1) ∧ (nF I 39 = 0 → I = I1) ∧ fr (fun c k => (66 ≤ c ∧ c ≤ 74) ∨ (c = 0 ∧ k = 16)) I I1) → Φ (some (.int (imgV (nF I 39) (I 39 9)))) (mk I1 J)) : mj_Met Ω l false mX11_image d 0 0 [.ref 0] (mk I J) Φ := by
  refine inX11_image hd I J ?_
  obtain ⟨hc, hn⟩ := hp
  rw [hc]
  by_cases q : (0 : Int32) < nI (nF I 39)
  case neg =>
    rw [if_neg q]
    rw [pos_n hn] at q
    have h := h I ⟨fun w => absurd w q, fun _ => rfl, fr_rf⟩
    unfold imgV at h
    rw [cif_f q] at h; exact h
  rw [if_pos q]
  rw [pos_n hn] at q
  refine ⟨⟨by unfold isFG; omega, mj_isk_mk _ _⟩, ⟨hc, hn⟩, fun A hA => ?_⟩
  obtain ⟨a1, a2, a3, a4, a5⟩ := hA
  obtain ⟨nB, VB, oB, sB⟩ := FF_fr (I := A) (I1 := mj_ui A 0 16 1) (f := 66) (fun c k h1 h2 => ui_c (by omega))
  have h := h (mj_ui A 0 16 1) ⟨fun _ => ⟨oB a1, nB.trans a2, VB.trans a3, sB.trans a4, ui_s⟩, fun w => by omega, fr_ui (fun c k w => a5 c k (fun z => w (Or.inl z))) (Or.inr ⟨rfl, rfl⟩)⟩
  unfold imgV at h
  rw [cif_t q] at h
  rw [a5 39 9 (by (try dsimp only); omega)]
  exact h
theorem sdX11_image : mj_Sd mX11_image 2 tX11_image := by
  intro Ω l d hd as M Φ h
  unfold tX11_image at h
  split at h
  · rename_i z_this
    obtain ⟨⟨rfl, hM⟩, hp, h⟩ := h
    rw [mj_isk_of hM]
    exact mnX11_image hd _ _ hp (by
      rw [mj_isk_of hM] at h
      exact h)
  · exact h.elim
def csX12_image : List (Nat × Nat × Nat × mj_PT) := []
theorem csX12_image_ok : mj_Cs mX12_image 1 csX12_image := mj_Cs0
def cutX12_image : List (Nat × List Bool) := [(11, [true, true])]
set_option maxRecDepth 100000 in
set_option maxHeartbeats 4000000 in
theorem inX12_image {Ω : mj_Om} {l : Launch} {d : Nat} {Φ : Option Value → mj_M → Prop} (hd : 1 ≤ d) (I : Nat → Nat → Int32) (J : Nat → Nat → Int64)
    (h : ((if (I 91 22) = (0 : Int32) then (Φ (some (.int (-1 : Int32))) (mk I J)) else (mj_G Ω l false mX12_image d 0 0 Φ 0 0 11 ([some (.ref 91), some (.int (0 : Int32))], [], (mk I J)))))) :
    mj_Met Ω l false mX12_image d 0 0 [.ref 91] (mk I J) Φ := mj_entry (by decide) rfl (fun h => (by cases h)) (Nat.le_of_ble_eq_true rfl) (mj_blk (μ := mX12_image) (P := pX12_image) (cut := cutX12_image) (cs := csX12_image) dX12_image csX12_image_ok hd 29 0 _ h)
set_option maxRecDepth 100000 in
set_option maxHeartbeats 4000000 in
theorem bX12_image_11 {Ω : mj_Om} {l : Launch} {d : Nat} {Φ : Option Value → mj_M → Prop} (hd : 1 ≤ d) (x1 : Int32) (I : Nat → Nat → Int32) (J : Nat → Nat → Int64)
    (h : ((if x1 < (49 : Int32) then (mj_gd (mj_inB x1 49) (mj_gd (mj_inB x1 49) (mj_G Ω l false mX12_image d 0 0 Φ 0 0 11 ([some (.ref 91), some (.int (x1 + (1 : Int32)))], [], (mk (mj_ui I 119 (x1).toNatClampNeg (I 106 (x1).toNatClampNeg)) J))))) else (Φ (some (.int (I 106 48))) (mk (mj_ui I 91 44 (1 : Int32)) J))))) :
    mj_G Ω l false mX12_image d 0 0 Φ 0 0 11 ([some (.ref 91), some (.int x1)], [], mk I J) := mj_blk (μ := mX12_image) (P := pX12_image) (cut := cutX12_image) (cs := csX12_image) dX12_image csX12_image_ok hd 29 11 _ h
def tX12_image : mj_PT := fun as M Φ => match as with
  | [.ref this] => ((this = 91 ∧ mj_isk M) ∧ ((okM M.2.2.1) ∧ (∀ I1 : Nat → Nat → Int32, ((0 < nM M.2.2.1 → (∀ k, k < 49 → I1 119 k = M.2.2.1 106 k) ∧ I1 91 44 = 1) ∧ (nM M.2.2.1 = 0 → M.2.2.1 = I1) ∧ fr (fun c k => c = 119 ∨ (c = 91 ∧ k = 44)) M.2.2.1 I1) → Φ (some (.int (imgV (nM M.2.2.1) (M.2.2.1 106 48)))) (M.1, M.2.1, I1, M.2.2.2))))
  | _ => False
set_option maxHeartbeats 4000000 in
theorem mnX12_image {Ω : mj_Om} {l : Launch} {d : Nat} {Φ : Option Value → mj_M → Prop} (hd : 1 ≤ d) (I : Nat → Nat → Int32) (J : Nat → Nat → Int64) (hp : okM I) (h : ∀ I1 : Nat → Nat → Int32, ((0 < nM I → (∀ k, k < 49 → I1 119 k = I 106 k) ∧ I1 91 44 = 1) ∧ (nM I = 0 → I = I1) ∧ fr (fun c k => c = 119 ∨ (c = 91 ∧ k = 44)) I I1) → Φ (some (.int (imgV (nM I) (I 106 48)))) (mk I1 J)) : mj_Met Ω l false mX12_image d 0 0 [.ref 91] (mk I J) Φ := by
  refine inX12_image hd I J ?_
  obtain ⟨hc, hn⟩ := hp
  rw [hc]
  by_cases q : nI (nM I) = 0
  · rw [if_pos q]
    rw [zero_n (by omega)] at q
    have h := h I ⟨fun w => by omega, fun _ => rfl, fr_rf⟩
    unfold imgV at h
    rw [cif_f (by omega)] at h; exact h
  rw [if_neg q]
  rw [zero_n (by omega)] at q
  refine lp_inv (σ := Nat → Nat → Int32) (n := 49) (G := fun i A => mj_G Ω l false mX12_image d 0 0 Φ 0 0 11 ([some (.ref 91), some (.int (nI i))], [], mk A J)) (fun i A => (∀ k, k < i → A 119 k = I 106 k) ∧ fr (fun c _ => c = 119) I A) (fun i A hi hI hk => ?_) (fun A hI => ?_) 49 0 I (by omega) ⟨fun j hj => absurd hj (Nat.not_lt_zero j), fr_rf⟩
  · refine bX12_image_11 hd (nI i) A J ?_
    rw [if_pos (show nI i < (49 : Int32) by rw [show (49 : Int32) = nI 49 from rfl, jn_lt (by omega) (by omega)]; exact hi)]
    simp (disch := omega) only [jn_in, jn_cl, gd_dec, jn_succ]
    rw [hI.2 106 i (by (try dsimp only); omega)]
    refine hk _ ⟨fun k hk' => ?_, fr_ui hI.2 rfl⟩
    by_cases z : k = i
    · rw [z, ui_s]
    · rw [ui_k z]; exact hI.1 k (by omega)
  · refine bX12_image_11 hd (nI 49) A J ?_
    rw [if_neg (by decide), hI.2 106 48 (by (try dsimp only); omega)]
    have h := h (mj_ui A 91 44 1) ⟨fun _ => ⟨fun k hk => by rw [ui_c (by decide)]; exact hI.1 k hk, ui_s⟩, fun w => absurd w q, fr_ui (fun c k w => hI.2 c k (fun z => w (Or.inl z))) (Or.inr ⟨rfl, rfl⟩)⟩
    unfold imgV at h
    rw [cif_t (by omega)] at h
    exact h
theorem sdX12_image : mj_Sd mX12_image 1 tX12_image := by
  intro Ω l d hd as M Φ h
  unfold tX12_image at h
  split at h
  · rename_i z_this
    obtain ⟨⟨rfl, hM⟩, hp, h⟩ := h
    rw [mj_isk_of hM]
    exact mnX12_image hd _ _ hp (by
      rw [mj_isk_of hM] at h
      exact h)
  · exact h.elim
def csX11_back : List (Nat × Nat × Nat × mj_PT) := [(134, 0, 2, mj_rcv 3 tX3_copyFrom), (137, 0, 1, mj_rcv 0 tX0_forget)]
theorem csX11_back_ok : mj_Cs mX11_back 2 csX11_back := (mj_CsV (D' := 1) (ci := 3) (q := (RX3, TX3, 10)) sdX3_copyFrom (Nat.le_of_ble_eq_true rfl) fX3_copyFrom rfl rfl iX3_copyFrom vX3_copyFrom (by decide +kernel) l11_134 (mj_CsV (D' := 1) (ci := 0) (q := (RX0, TX0, 3)) sdX0_forget (Nat.le_of_ble_eq_true rfl) fX0_forget rfl rfl iX0_forget vX0_forget (by decide +kernel) l11_137 mj_Cs0))
def cutX11_back : List (Nat × List Bool) := []
set_option maxRecDepth 100000 in
set_option maxHeartbeats 4000000 in
theorem inX11_back {Ω : mj_Om} {l : Launch} {d : Nat} {Φ : Option Value → mj_M → Prop} (hd : 2 ≤ d) (I : Nat → Nat → Int32) (J : Nat → Nat → Int64)
    (h : ((if (I 0 16) = (0 : Int32) then (Φ (some (.int (-1 : Int32))) (mk I J)) else ((isFG 39 66 ∧ mj_isk (mk I J)) ∧ ((okF I 66) ∧ (∀ I947 : Nat → Nat → Int32, (okF I947 39 ∧ nF I947 39 = nF I 66 ∧ VF I947 39 = VF I 66 ∧ I947 39 9 = I 66 9 ∧ fr (fun c _ => 39 ≤ c ∧ c ≤ 39 + 8) I I947) → (Φ (some (.int (I947 39 9))) (mk (mj_ui I947 80 2 (0 : Int32)) J)))))))) :
    mj_Met Ω l false mX11_back d 0 0 [.ref 0] (mk I J) Φ := mj_entry (by decide) rfl (fun h => (by cases h)) (Nat.le_of_ble_eq_true rfl) (mj_blk (μ := mX11_back) (P := pX11_back) (cut := cutX11_back) (cs := csX11_back) dX11_back csX11_back_ok hd 18 0 _ h)
def tX11_back : mj_PT := fun as M Φ => match as with
  | [.ref this] => ((this = 0 ∧ mj_isk M) ∧ ((¬ M.2.2.1 0 16 = 0 → okF M.2.2.1 66) ∧ (∀ I1 : Nat → Nat → Int32, ((¬ M.2.2.1 0 16 = 0 → okF I1 39 ∧ nF I1 39 = nF M.2.2.1 66 ∧ VF I1 39 = VF M.2.2.1 66 ∧ I1 39 9 = M.2.2.1 66 9 ∧ I1 80 2 = 0) ∧ (M.2.2.1 0 16 = 0 → M.2.2.1 = I1) ∧ fr (fun c k => (39 ≤ c ∧ c ≤ 47) ∨ (c = 80 ∧ k = 2)) M.2.2.1 I1) → Φ (some (.int (backV (M.2.2.1 0 16) (M.2.2.1 66 9)))) (M.1, M.2.1, I1, M.2.2.2))))
  | _ => False
set_option maxHeartbeats 4000000 in
theorem mnX11_back {Ω : mj_Om} {l : Launch} {d : Nat} {Φ : Option Value → mj_M → Prop} (hd : 2 ≤ d) (I : Nat → Nat → Int32) (J : Nat → Nat → Int64) (hp : ¬ I 0 16 = 0 → okF I 66) (h : ∀ I1 : Nat → Nat → Int32, ((¬ I 0 16 = 0 → okF I1 39 ∧ nF I1 39 = nF I 66 ∧ VF I1 39 = VF I 66 ∧ I1 39 9 = I 66 9 ∧ I1 80 2 = 0) ∧ (I 0 16 = 0 → I = I1) ∧ fr (fun c k => (39 ≤ c ∧ c ≤ 47) ∨ (c = 80 ∧ k = 2)) I I1) → Φ (some (.int (backV (I 0 16) (I 66 9)))) (mk I1 J)) : mj_Met Ω l false mX11_back d 0 0 [.ref 0] (mk I J) Φ := by
  refine inX11_back hd I J ?_
  by_cases q : I 0 16 = 0
  · rw [if_pos q]
    have h := h I ⟨fun w => absurd q w, fun _ => rfl, fr_rf⟩
    unfold backV at h
    rw [cif_t q] at h; exact h
  rw [if_neg q]
  refine ⟨⟨by unfold isFG; omega, mj_isk_mk _ _⟩, hp q, fun A hA => ?_⟩
  obtain ⟨a1, a2, a3, a4, a5⟩ := hA
  obtain ⟨nB, VB, oB, sB⟩ := FF_fr (I := A) (I1 := mj_ui A 80 2 0) (f := 39) (fun c k h1 h2 => ui_c (by omega))
  have h := h (mj_ui A 80 2 0) ⟨fun _ => ⟨oB a1, nB.trans a2, VB.trans a3, sB.trans a4, ui_s⟩, fun w => absurd w q, fr_ui (fun c k w => a5 c k (fun z => w (Or.inl z))) (Or.inr ⟨rfl, rfl⟩)⟩
  unfold backV at h
  rw [cif_f q] at h
  rw [a4]
  exact h
theorem sdX11_back : mj_Sd mX11_back 2 tX11_back := by
  intro Ω l d hd as M Φ h
  unfold tX11_back at h
  split at h
  · rename_i z_this
    obtain ⟨⟨rfl, hM⟩, hp, h⟩ := h
    rw [mj_isk_of hM]
    exact mnX11_back hd _ _ hp (by
      rw [mj_isk_of hM] at h
      exact h)
  · exact h.elim
def csX12_back : List (Nat × Nat × Nat × mj_PT) := []
theorem csX12_back_ok : mj_Cs mX12_back 1 csX12_back := mj_Cs0
def cutX12_back : List (Nat × List Bool) := [(11, [true, true])]
set_option maxRecDepth 100000 in
set_option maxHeartbeats 4000000 in
theorem inX12_back {Ω : mj_Om} {l : Launch} {d : Nat} {Φ : Option Value → mj_M → Prop} (hd : 1 ≤ d) (I : Nat → Nat → Int32) (J : Nat → Nat → Int64)
    (h : ((if (I 91 44) = (0 : Int32) then (Φ (some (.int (-1 : Int32))) (mk I J)) else (mj_G Ω l false mX12_back d 0 0 Φ 0 0 11 ([some (.ref 91), some (.int (0 : Int32))], [], (mk I J)))))) :
    mj_Met Ω l false mX12_back d 0 0 [.ref 91] (mk I J) Φ := mj_entry (by decide) rfl (fun h => (by cases h)) (Nat.le_of_ble_eq_true rfl) (mj_blk (μ := mX12_back) (P := pX12_back) (cut := cutX12_back) (cs := csX12_back) dX12_back csX12_back_ok hd 29 0 _ h)
set_option maxRecDepth 100000 in
set_option maxHeartbeats 4000000 in
theorem bX12_back_11 {Ω : mj_Om} {l : Launch} {d : Nat} {Φ : Option Value → mj_M → Prop} (hd : 1 ≤ d) (x1 : Int32) (I : Nat → Nat → Int32) (J : Nat → Nat → Int64)
    (h : ((if x1 < (49 : Int32) then (mj_gd (mj_inB x1 49) (mj_gd (mj_inB x1 49) (mj_G Ω l false mX12_back d 0 0 Φ 0 0 11 ([some (.ref 91), some (.int (x1 + (1 : Int32)))], [], (mk (mj_ui I 106 (x1).toNatClampNeg (I 119 (x1).toNatClampNeg)) J))))) else (Φ (some (.int (I 106 48))) (mk (mj_ui I 91 31 (0 : Int32)) J))))) :
    mj_G Ω l false mX12_back d 0 0 Φ 0 0 11 ([some (.ref 91), some (.int x1)], [], mk I J) := mj_blk (μ := mX12_back) (P := pX12_back) (cut := cutX12_back) (cs := csX12_back) dX12_back csX12_back_ok hd 29 11 _ h
def tX12_back : mj_PT := fun as M Φ => match as with
  | [.ref this] => ((this = 91 ∧ mj_isk M) ∧ (∀ I1 : Nat → Nat → Int32, ((¬ M.2.2.1 91 44 = 0 → (∀ k, k < 49 → I1 106 k = M.2.2.1 119 k) ∧ I1 91 31 = 0) ∧ (M.2.2.1 91 44 = 0 → M.2.2.1 = I1) ∧ fr (fun c k => (c = 106 ∧ k < 49) ∨ (c = 91 ∧ k = 31)) M.2.2.1 I1) → Φ (some (.int (backV (M.2.2.1 91 44) (M.2.2.1 119 48)))) (M.1, M.2.1, I1, M.2.2.2)))
  | _ => False
set_option maxHeartbeats 4000000 in
theorem mnX12_back {Ω : mj_Om} {l : Launch} {d : Nat} {Φ : Option Value → mj_M → Prop} (hd : 1 ≤ d) (I : Nat → Nat → Int32) (J : Nat → Nat → Int64) (h : ∀ I1 : Nat → Nat → Int32, ((¬ I 91 44 = 0 → (∀ k, k < 49 → I1 106 k = I 119 k) ∧ I1 91 31 = 0) ∧ (I 91 44 = 0 → I = I1) ∧ fr (fun c k => (c = 106 ∧ k < 49) ∨ (c = 91 ∧ k = 31)) I I1) → Φ (some (.int (backV (I 91 44) (I 119 48)))) (mk I1 J)) : mj_Met Ω l false mX12_back d 0 0 [.ref 91] (mk I J) Φ := by
  refine inX12_back hd I J ?_
  by_cases q : I 91 44 = 0
  · rw [if_pos q]
    have h := h I ⟨fun w => absurd q w, fun _ => rfl, fr_rf⟩
    unfold backV at h
    rw [cif_t q] at h; exact h
  rw [if_neg q]
  refine lp_inv (σ := Nat → Nat → Int32) (n := 49) (G := fun i A => mj_G Ω l false mX12_back d 0 0 Φ 0 0 11 ([some (.ref 91), some (.int (nI i))], [], mk A J)) (fun i A => (∀ k, k < i → A 106 k = I 119 k) ∧ fr (fun c k => c = 106 ∧ k < 49) I A) (fun i A hi hI hk => ?_) (fun A hI => ?_) 49 0 I (by omega) ⟨fun j hj => absurd hj (Nat.not_lt_zero j), fr_rf⟩
  · refine bX12_back_11 hd (nI i) A J ?_
    rw [if_pos (show nI i < (49 : Int32) by rw [show (49 : Int32) = nI 49 from rfl, jn_lt (by omega) (by omega)]; exact hi)]
    simp (disch := omega) only [jn_in, jn_cl, gd_dec, jn_succ]
    rw [hI.2 119 i (by (try dsimp only); omega)]
    refine hk _ ⟨fun k hk' => ?_, fr_ui hI.2 ⟨rfl, hi⟩⟩
    by_cases z : k = i
    · rw [z, ui_s]
    · rw [ui_k z]; exact hI.1 k (by omega)
  · refine bX12_back_11 hd (nI 49) A J ?_
    rw [if_neg (by decide), hI.1 48 (by decide)]
    have h := h (mj_ui A 91 31 0) ⟨fun _ => ⟨fun k hk => by rw [ui_c (by decide)]; exact hI.1 k hk, ui_s⟩, fun w => absurd w q, fr_ui (fun c k w => hI.2 c k (fun z => w (Or.inl z))) (Or.inr ⟨rfl, rfl⟩)⟩
    unfold backV at h
    rw [cif_f q] at h
    exact h
theorem sdX12_back : mj_Sd mX12_back 1 tX12_back := by
  intro Ω l d hd as M Φ h
  unfold tX12_back at h
  split at h
  · rename_i z_this
    obtain ⟨⟨rfl, hM⟩, h⟩ := h
    rw [mj_isk_of hM]
    exact mnX12_back hd _ _ (by
      rw [mj_isk_of hM] at h
      exact h)
  · exact h.elim
