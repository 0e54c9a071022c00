/-! ===== picture (by program, wip/whole/p61.py) ===== -/
def picOk (n p : Nat) (b x y : Int32) : Prop := okBN n b ∧ ¬ x < -20 ∧ ¬ 20 < y ∧ ¬ y < x ∧ p < 12
noncomputable def picV (n p : Nat) (b x y : Int32) : Int32 := cif (picOk n p b x y) (nI (p + 1)) (-1)
def csX11_pictureS : List (Nat × Nat × Nat × mj_PT) := [(160, 0, 2, mj_rcv 11 tX11_isBoat), (312, 0, 3, mj_rcv 5 tX5_canSee), (315, 0, 4, mj_rcv 5 tX5_addPicture)]
theorem csX11_pictureS_ok : mj_Cs mX11_picture 2 csX11_pictureS := (mj_CsV (D' := 1) (ci := 11) (q := (RX11, TX11, 18)) sdX11_isBoat (Nat.le_of_ble_eq_true rfl) fX11_isBoat rfl rfl iX11_isBoat vX11_isBoat (by decide +kernel) l11_160 (mj_CsV (D' := 1) (ci := 5) (q := (RX5, TX5, 6)) sdX5_canSee (Nat.le_of_ble_eq_true rfl) fX5_canSee rfl rfl iX5_canSee vX5_canSee (by decide +kernel) l11_312 (mj_CsV (D' := 1) (ci := 5) (q := (RX5, TX5, 6)) sdX5_addPicture (Nat.le_of_ble_eq_true rfl) fX5_addPicture rfl rfl iX5_addPicture vX5_addPicture (by decide +kernel) l11_315 mj_Cs0)))
def cutX11_pictureS : List (Nat × List Bool) := []
set_option maxRecDepth 100000 in
set_option maxHeartbeats 4000000 in
theorem inX11_pictureS {Ω : mj_Om} {l : Launch} {d : Nat} {Φ : Option Value → mj_M → Prop} (hd : 2 ≤ d) (b : Int32) (x : Int32) (y : Int32) (I : Nat → Nat → Int32) (J : Nat → Nat → Int64)
    (h : ((if b < (0 : Int32) then (Φ (some (.int (-1 : Int32))) (mk I J)) else (if b < (I 39 8) then (if (I 86 4) < (12 : Int32) then (if x < (-20 : Int32) then (Φ (some (.int (-1 : Int32))) (mk I J)) else (if (20 : Int32) < y then (Φ (some (.int (-1 : Int32))) (mk I J)) else (if y < x then (Φ (some (.int (-1 : Int32))) (mk I J)) else (mj_gd (mj_inB b 8) (mj_gd (mj_inB b 8) (mj_gd (mj_inB b 8) (if (I 88 (b).toNatClampNeg) < x then (mj_gd (mj_inB b 8) (mj_gd (mj_inB b 8) (if y < (I 89 (b).toNatClampNeg) then (mj_gd (mj_inB b 8) (Φ (some (.int ((I 86 4) + (1 : Int32)))) (mk (mj_ui (mj_ui (mj_ui (mj_ui I 87 (b).toNatClampNeg ((I 87 (b).toNatClampNeg) + (1 : Int32))) 88 (b).toNatClampNeg x) 89 (b).toNatClampNeg y) 86 4 ((I 86 4) + (1 : Int32))) J))) else (mj_gd (mj_inB b 8) (mj_gd (mj_inB b 8) (Φ (some (.int ((I 86 4) + (1 : Int32)))) (mk (mj_ui (mj_ui (mj_ui (mj_ui I 87 (b).toNatClampNeg ((I 87 (b).toNatClampNeg) + (1 : Int32))) 88 (b).toNatClampNeg x) 89 (b).toNatClampNeg (I 89 (b).toNatClampNeg)) 86 4 ((I 86 4) + (1 : Int32))) J))))))) else (mj_gd (mj_inB b 8) (mj_gd (mj_inB b 8) (mj_gd (mj_inB b 8) (if y < (I 89 (b).toNatClampNeg) then (mj_gd (mj_inB b 8) (Φ (some (.int ((I 86 4) + (1 : Int32)))) (mk (mj_ui (mj_ui (mj_ui (mj_ui I 87 (b).toNatClampNeg ((I 87 (b).toNatClampNeg) + (1 : Int32))) 88 (b).toNatClampNeg (I 88 (b).toNatClampNeg)) 89 (b).toNatClampNeg y) 86 4 ((I 86 4) + (1 : Int32))) J))) else (mj_gd (mj_inB b 8) (mj_gd (mj_inB b 8) (Φ (some (.int ((I 86 4) + (1 : Int32)))) (mk (mj_ui (mj_ui (mj_ui (mj_ui I 87 (b).toNatClampNeg ((I 87 (b).toNatClampNeg) + (1 : Int32))) 88 (b).toNatClampNeg (I 88 (b).toNatClampNeg)) 89 (b).toNatClampNeg (I 89 (b).toNatClampNeg)) 86 4 ((I 86 4) + (1 : Int32))) J))))))))))))))) else (Φ (some (.int (-1 : Int32))) (mk I J))) else (Φ (some (.int (-1 : Int32))) (mk I J)))))) :
    mj_Met Ω l false mX11_picture d 0 0 [.ref 0, .int b, .int x, .int y] (mk I J) Φ := mj_entry (by decide) rfl (fun h => (by cases h)) (Nat.le_of_ble_eq_true rfl) (mj_blk (μ := mX11_picture) (P := pX11_picture) (cut := cutX11_pictureS) (cs := csX11_pictureS) dX11_picture csX11_pictureS_ok hd 20 0 _ h)
def tX11_pictureS : mj_PT := fun as M Φ => match as with
  | [.ref this, .int b, .int x, .int y] => ((this = 0 ∧ mj_isk M) ∧ (∃ m : Nat, (∃ R : RF, (∃ p : Nat, ((qC M.2.2.1 m R ∧ p ≤ 12 ∧ M.2.2.1 86 4 = nI p) ∧ (∀ I1 : Nat → Nat → Int32, ((picOk (nF M.2.2.1 39) p b x y → I1 = mj_ui (mj_ui (mj_ui (mj_ui M.2.2.1 87 (b).toNatClampNeg (M.2.2.1 87 (b).toNatClampNeg + 1)) 88 (b).toNatClampNeg (if M.2.2.1 88 (b).toNatClampNeg < x then x else M.2.2.1 88 (b).toNatClampNeg)) 89 (b).toNatClampNeg (if y < M.2.2.1 89 (b).toNatClampNeg then y else M.2.2.1 89 (b).toNatClampNeg)) 86 4 (nI (p + 1))) ∧ (¬ picOk (nF M.2.2.1 39) p b x y → M.2.2.1 = I1)) → Φ (some (.int (picV (nF M.2.2.1 39) p b x y))) (M.1, M.2.1, I1, M.2.2.2)))))))
  | _ => False
set_option maxHeartbeats 8000000 in
theorem mnX11_pictureS {Ω : mj_Om} {l : Launch} {d : Nat} {Φ : Option Value → mj_M → Prop} (hd : 2 ≤ d) (b : Int32) (x : Int32) (y : Int32) (m : Nat) (R : RF) (p : Nat) (I : Nat → Nat → Int32) (J : Nat → Nat → Int64) (hp : qC I m R ∧ p ≤ 12 ∧ I 86 4 = nI p) (h : ∀ I1 : Nat → Nat → Int32, ((picOk (nF I 39) p b x y → I1 = mj_ui (mj_ui (mj_ui (mj_ui I 87 (b).toNatClampNeg (I 87 (b).toNatClampNeg + 1)) 88 (b).toNatClampNeg (if I 88 (b).toNatClampNeg < x then x else I 88 (b).toNatClampNeg)) 89 (b).toNatClampNeg (if y < I 89 (b).toNatClampNeg then y else I 89 (b).toNatClampNeg)) 86 4 (nI (p + 1))) ∧ (¬ picOk (nF I 39) p b x y → I = I1)) → Φ (some (.int (picV (nF I 39) p b x y))) (mk I1 J)) : mj_Met Ω l false mX11_picture d 0 0 [.ref 0, .int b, .int x, .int y] (mk I J) Φ := by
  refine inX11_pictureS hd b x y I J ?_
  obtain ⟨hp, h12, h4⟩ := hp
  obtain ⟨⟨hc, hn⟩, hR, hFF⟩ := id hp
  have hN : ¬ picOk (nF I 39) p b x y → Φ (some (.int (-1))) (mk I J) := fun q => by
    have := h I ⟨fun w => absurd w q, fun _ => rfl⟩
    unfold picV at this
    rwa [cif_f q] at this
  by_cases hb0 : b < 0
  · rw [if_pos hb0]; exact hN (fun w => absurd hb0 (Int32.not_lt.mpr w.1.1))
  rw [if_neg hb0, hc]
  by_cases hb1 : b < nI (nF I 39)
  case neg => rw [if_neg hb1]; exact hN (fun w => hb1 w.1.2)
  rw [if_pos hb1]
  obtain ⟨k, hk, rfl⟩ := okB_of hb0 hb1 hn
  have hok := okBN_n hk hn
  rw [h4]
  have e12 : (nI p < (12 : Int32)) = (p < 12) := jn_lt (b := 12) (by omega) (by omega)
  by_cases q2 : nI p < (12 : Int32)
  case neg => rw [if_neg q2]; rw [e12] at q2; exact hN (fun w => q2 w.2.2.2.2)
  rw [if_pos q2]
  rw [e12] at q2
  by_cases q3 : x < -20
  · rw [if_pos q3]; exact hN (fun w => w.2.1 q3)
  rw [if_neg q3]
  by_cases q4 : 20 < y
  · rw [if_pos q4]; exact hN (fun w => w.2.2.1 q4)
  rw [if_neg q4]
  by_cases q5 : y < x
  · rw [if_pos q5]; exact hN (fun w => w.2.2.2.1 q5)
  rw [if_neg q5]
  have ok : picOk (nF I 39) p (nI k) x y := ⟨hok, q3, q4, q5, q2⟩
  have hY := h _ ⟨fun _ => rfl, fun w => absurd ok w⟩
  unfold picV at hY
  rw [cif_t ok] at hY
  simp (disch := omega) only [jn_cl] at hY
  simp (disch := omega) only [jn_in, jn_cl, gd_dec, jn_succ]
  by_cases z1 : I 88 k < x
  · by_cases z2 : y < I 89 k
    · rw [if_pos z1, if_pos z2] at hY; rw [if_pos z1, if_pos z2]; exact hY
    · rw [if_pos z1, if_neg z2] at hY; rw [if_pos z1, if_neg z2]; exact hY
  · by_cases z2 : y < I 89 k
    · rw [if_neg z1, if_pos z2] at hY; rw [if_neg z1, if_pos z2]; exact hY
    · rw [if_neg z1, if_neg z2] at hY; rw [if_neg z1, if_neg z2]; exact hY
theorem sdX11_pictureS : mj_Sd mX11_picture 2 tX11_pictureS := by
  intro Ω l d hd as M Φ h
  unfold tX11_pictureS at h
  split at h
  · rename_i z_this b x y
    obtain ⟨⟨rfl, hM⟩, m, R, p, hp, h⟩ := h
    rw [mj_isk_of hM]
    exact mnX11_pictureS hd b x y m R p _ _ hp (by
      rw [mj_isk_of hM] at h
      exact h)
  · exact h.elim
def csX12_pictureS : List (Nat × Nat × Nat × mj_PT) := [(214, 1, 3, tX12_in), (306, 0, 2, mj_rcv 12 tX12_isBoat)]
theorem csX12_pictureS_ok : mj_Cs mX12_picture 3 csX12_pictureS := (mj_CsS (D' := 1) sdX12_in (Nat.le_of_ble_eq_true rfl) fX12_in sX12_in (by decide +kernel) l12_214 (mj_CsV (D' := 2) (ci := 12) (q := (RX12, TX12, 45)) sdX12_isBoat (Nat.le_of_ble_eq_true rfl) fX12_isBoat rfl rfl iX12_isBoat vX12_isBoat (by decide +kernel) l12_306 mj_Cs0))
def cutX12_pictureS : List (Nat × List Bool) := []
set_option maxRecDepth 100000 in
set_option maxHeartbeats 4000000 in
theorem inX12_pictureS {Ω : mj_Om} {l : Launch} {d : Nat} {Φ : Option Value → mj_M → Prop} (hd : 3 ≤ d) (b : Int32) (x : Int32) (y : Int32) (I : Nat → Nat → Int32) (J : Nat → Nat → Int64)
    (h : ((if b < (0 : Int32) then (Φ (some (.int (-1 : Int32))) (mk I J)) else (if ((I 91 22) - (1 : Int32)) < b then (Φ (some (.int (-1 : Int32))) (mk I J)) else (if x < (-20 : Int32) then (Φ (some (.int (-1 : Int32))) (mk I J)) else (if y < x then (Φ (some (.int (-1 : Int32))) (mk I J)) else (if (20 : Int32) < y then (Φ (some (.int (-1 : Int32))) (mk I J)) else (if (I 91 40) = (12 : Int32) then (Φ (some (.int (-1 : Int32))) (mk I J)) else (mj_gd (mj_inB (I 91 40) 12) (mj_gd (mj_inB (I 91 40) 12) (mj_gd (mj_inB (I 91 40) 12) (Φ (some (.int ((I 91 40) + (1 : Int32)))) (mk (mj_ui (mj_ui (mj_ui (mj_ui I 115 ((I 91 40)).toNatClampNeg b) 116 ((I 91 40)).toNatClampNeg x) 117 ((I 91 40)).toNatClampNeg y) 91 40 ((I 91 40) + (1 : Int32))) J))))))))))))) :
    mj_Met Ω l false mX12_picture d 0 0 [.ref 91, .int b, .int x, .int y] (mk I J) Φ := mj_entry (by decide) rfl (fun h => (by cases h)) (Nat.le_of_ble_eq_true rfl) (mj_blk (μ := mX12_picture) (P := pX12_picture) (cut := cutX12_pictureS) (cs := csX12_pictureS) dX12_picture csX12_pictureS_ok hd 46 0 _ h)
def tX12_pictureS : mj_PT := fun as M Φ => match as with
  | [.ref this, .int b, .int x, .int y] => ((this = 91 ∧ mj_isk M) ∧ (∃ m : Nat, (∃ R : RF, (∃ p : Nat, ((qM M.2.2.1 m R ∧ p ≤ 12 ∧ M.2.2.1 91 40 = nI p) ∧ (∀ I1 : Nat → Nat → Int32, ((picOk (nM M.2.2.1) p b x y → I1 = mj_ui (mj_ui (mj_ui (mj_ui M.2.2.1 115 p b) 116 p x) 117 p y) 91 40 (nI (p + 1))) ∧ (¬ picOk (nM M.2.2.1) p b x y → M.2.2.1 = I1)) → Φ (some (.int (picV (nM M.2.2.1) p b x y))) (M.1, M.2.1, I1, M.2.2.2)))))))
  | _ => False
set_option maxHeartbeats 8000000 in
theorem mnX12_pictureS {Ω : mj_Om} {l : Launch} {d : Nat} {Φ : Option Value → mj_M → Prop} (hd : 3 ≤ d) (b : Int32) (x : Int32) (y : Int32) (m : Nat) (R : RF) (p : Nat) (I : Nat → Nat → Int32) (J : Nat → Nat → Int64) (hp : qM I m R ∧ p ≤ 12 ∧ I 91 40 = nI p) (h : ∀ I1 : Nat → Nat → Int32, ((picOk (nM I) p b x y → I1 = mj_ui (mj_ui (mj_ui (mj_ui I 115 p b) 116 p x) 117 p y) 91 40 (nI (p + 1))) ∧ (¬ picOk (nM I) p b x y → I = I1)) → Φ (some (.int (picV (nM I) p b x y))) (mk I1 J)) : mj_Met Ω l false mX12_picture d 0 0 [.ref 91, .int b, .int x, .int y] (mk I J) Φ := by
  refine inX12_pictureS hd b x y I J ?_
  obtain ⟨hp, h12, h4⟩ := hp
  obtain ⟨⟨hc, hn⟩, hR, hFF, h25, h26⟩ := id hp
  have hN : ¬ picOk (nM I) p b x y → Φ (some (.int (-1))) (mk I J) := fun q => by
    have := h I ⟨fun w => absurd w q, fun _ => rfl⟩
    unfold picV at this
    rwa [cif_f q] at this
  by_cases hb0 : b < 0
  · rw [if_pos hb0]; exact hN (fun w => ((in_n hn).mpr w.1).1 hb0)
  rw [if_neg hb0, hc]
  by_cases hb1 : nI (nM I) - 1 < b
  · rw [if_pos hb1]; exact hN (fun w => ((in_n hn).mpr w.1).2 hb1)
  rw [if_neg hb1]
  have hok := (in_n hn).mp ⟨hb0, hb1⟩
  by_cases q3 : x < -20
  · rw [if_pos q3]; exact hN (fun w => w.2.1 q3)
  rw [if_neg q3]
  by_cases q5 : y < x
  · rw [if_pos q5]; exact hN (fun w => w.2.2.2.1 q5)
  rw [if_neg q5]
  by_cases q4 : 20 < y
  · rw [if_pos q4]; exact hN (fun w => w.2.2.1 q4)
  rw [if_neg q4, h4]
  have e12 : (nI p = (12 : Int32)) = (p = 12) := jn_eq (b := 12) (by omega) (by omega)
  by_cases q2 : nI p = (12 : Int32)
  · rw [if_pos q2]; rw [e12] at q2; exact hN (fun w => by have := w.2.2.2.2; omega)
  rw [if_neg q2]
  rw [e12] at q2
  have ok : picOk (nM I) p b x y := ⟨hok, q3, q4, q5, by omega⟩
  have hY := h _ ⟨fun _ => rfl, fun w => absurd ok w⟩
  unfold picV at hY
  rw [cif_t ok] at hY
  simp (disch := omega) only [jn_in, jn_cl, gd_dec, jn_succ]
  exact hY
theorem sdX12_pictureS : mj_Sd mX12_picture 3 tX12_pictureS := by
  intro Ω l d hd as M Φ h
  unfold tX12_pictureS at h
  split at h
  · rename_i z_this b x y
    obtain ⟨⟨rfl, hM⟩, m, R, p, hp, h⟩ := h
    rw [mj_isk_of hM]
    exact mnX12_pictureS hd b x y m R p _ _ hp (by
      rw [mj_isk_of hM] at h
      exact h)
  · exact h.elim
