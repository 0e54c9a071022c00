/-! ===== lots on both sides (by program, wip/whole/p105.py) ===== -/
theorem heldE {n : Nat} {F G : Vw} {x y : Int32} (h0 : ∀ b, b < n → F 0 b = G 0 b) (h1 : ∀ b, b < n → F 1 b = G 1 b) : held n F x y = held n G x y := propext ⟨fun ⟨i, hi, a, b⟩ => ⟨i, hi, by rw [← h0 i hi]; exact a, by rw [← h1 i hi]; exact b⟩, fun ⟨i, hi, a, b⟩ => ⟨i, hi, by rw [h0 i hi]; exact a, by rw [h1 i hi]; exact b⟩⟩
def csX12_drawCell : List (Nat × Nat × Nat × mj_PT) := [(274, 0, 4, mj_rcv 12 tX12_put_), (378, 0, 2, mj_rcv 12 tX12_drawS), (437, 0, 4, mj_rcv 12 tX12_isHeldAhead)]
theorem csX12_drawCell_ok : mj_Cs mX12_drawCell 3 csX12_drawCell := (mj_CsV (D' := 1) (ci := 12) (q := (RX12, TX12, 45)) sdX12_put_ (Nat.le_of_ble_eq_true rfl) fX12_put_ rfl rfl iX12_put_ vX12_put_ (by decide +kernel) l12_274 (mj_CsV (D' := 1) (ci := 12) (q := (RX12, TX12, 45)) sdX12_drawS (Nat.le_of_ble_eq_true rfl) fX12_draw rfl rfl iX12_draw vX12_draw (by decide +kernel) l12_378 (mj_CsV (D' := 2) (ci := 12) (q := (RX12, TX12, 45)) sdX12_isHeldAhead (Nat.le_of_ble_eq_true rfl) fX12_isHeldAhead rfl rfl iX12_isHeldAhead vX12_isHeldAhead (by decide +kernel) l12_437 mj_Cs0)))
def cutX12_drawCell : List (Nat × List Bool) := [(23, [true, true, true, true, true])]
set_option maxRecDepth 100000 in
set_option maxHeartbeats 4000000 in
theorem inX12_drawCell {Ω : mj_Om} {l : Launch} {d : Nat} {Φ : Option Value → mj_M → Prop} (hd : 3 ≤ d) (b_ : Int32) (I : Nat → Nat → Int32) (J : Nat → Nat → Int64)
    (h : (((91 = 91 ∧ mj_isk (mk I J)) ∧ ((0 < ((10 : Int32)).toInt) ∧ (∀ I3551 : Nat → Nat → Int32, ∀ J3552 : Nat → Nat → Int64, (I = I3551 ∧ mj_ul J 91 32 (nxJ (J 91 32)) = J3552) → ((91 = 91 ∧ mj_isk (mk I3551 J3552)) ∧ ((0 < ((I3551 104 0)).toInt) ∧ (∀ I3553 : Nat → Nat → Int32, ∀ J3554 : Nat → Nat → Int64, (I3551 = I3553 ∧ mj_ul J3552 91 32 (nxJ (J3552 91 32)) = J3554) → (mj_G Ω l false mX12_drawCell d 0 0 Φ 0 0 23 ([some (.ref 91), some (.int b_), some (.int ((5 : Int32) + (drw (nxJ (J 91 32)) (10 : Int32)))), some (.int (drw (nxJ (J3552 91 32)) (I3551 104 0))), some (.int (0 : Int32))], [], (mk I3553 J3554))))))))))) :
    mj_Met Ω l false mX12_drawCell d 0 0 [.ref 91, .int b_] (mk I J) Φ := mj_entry (by decide) rfl (fun h => (by cases h)) (Nat.le_of_ble_eq_true rfl) (mj_blk (μ := mX12_drawCell) (P := pX12_drawCell) (cut := cutX12_drawCell) (cs := csX12_drawCell) dX12_drawCell csX12_drawCell_ok hd 53 0 _ h)
set_option maxRecDepth 100000 in
set_option maxHeartbeats 4000000 in
theorem bX12_drawCell_23 {Ω : mj_Om} {l : Launch} {d : Nat} {Φ : Option Value → mj_M → Prop} (hd : 3 ≤ d) (x1 : Int32) (x2 : Int32) (x3 : Int32) (x4 : Int32) (I : Nat → Nat → Int32) (J : Nat → Nat → Int64)
    (h : (((91 = 91 ∧ mj_isk (mk I J)) ∧ ((okM I ∧ isB (nM I) x1) ∧ (if (b2i (held (x1).toNatClampNeg (VM I) x3 x2)) = (0 : Int32) then (mj_gd (mj_inB (((6 : Int32) * x1) + (0 : Int32)) 49) (mj_gd (mj_inB (((6 : Int32) * x1) + (1 : Int32)) 49) (Φ none (mk (mj_ui (mj_ui I 106 ((((6 : Int32) * x1) + (0 : Int32))).toNatClampNeg x3) 106 ((((6 : Int32) * x1) + (1 : Int32))).toNatClampNeg x2) J)))) else (mj_gd (!decide ((I 104 0) = 0)) (if (x4 + (1 : Int32)) = (I 104 0) then (mj_G Ω l false mX12_drawCell d 0 0 Φ 0 0 23 ([some (.ref 91), some (.int x1), some (.int (x2 + (1 : Int32))), some (.int ((x3 + (1 : Int32)) - (x3 + (1 : Int32)) / (I 104 0) * (I 104 0))), some (.int (0 : Int32))], [], (mk I J))) else (mj_G Ω l false mX12_drawCell d 0 0 Φ 0 0 23 ([some (.ref 91), some (.int x1), some (.int x2), some (.int ((x3 + (1 : Int32)) - (x3 + (1 : Int32)) / (I 104 0) * (I 104 0))), some (.int (x4 + (1 : Int32)))], [], (mk I J)))))))))) :
    mj_G Ω l false mX12_drawCell d 0 0 Φ 0 0 23 ([some (.ref 91), some (.int x1), some (.int x2), some (.int x3), some (.int x4)], [], mk I J) := mj_blk (μ := mX12_drawCell) (P := pX12_drawCell) (cut := cutX12_drawCell) (cs := csX12_drawCell) dX12_drawCell csX12_drawCell_ok hd 53 23 _ h
def tX12_drawCell : mj_PT := fun as M Φ => match as with
  | [.ref this, .int b_] => ((this = 91 ∧ mj_isk M) ∧ (∃ b : Nat, b_ = nI b ∧ (∃ w : Nat, ((okM M.2.2.1 ∧ b < nM M.2.2.1 ∧ M.2.2.1 104 0 = nI w ∧ 2 ≤ w ∧ w ≤ 20 ∧ dst w b (VM M.2.2.1)) ∧ (∀ I1 : Nat → Nat → Int32, ∀ J1 : Nat → Nat → Int64, (VM I1 = (scS w b (VM M.2.2.1, M.2.2.2 91 32)).1 ∧ J1 = mj_ul M.2.2.2 91 32 (nxJ (nxJ (M.2.2.2 91 32))) ∧ fr (fun c k => c = 106 ∧ k < 48) M.2.2.1 I1) → Φ none (M.1, M.2.1, I1, J1))))))
  | _ => False
set_option maxHeartbeats 4000000 in
theorem mnX12_drawCell {Ω : mj_Om} {l : Launch} {d : Nat} {Φ : Option Value → mj_M → Prop} (hd : 3 ≤ d) (b : Nat) (w : Nat) (I : Nat → Nat → Int32) (J : Nat → Nat → Int64) (hp : okM I ∧ b < nM I ∧ I 104 0 = nI w ∧ 2 ≤ w ∧ w ≤ 20 ∧ dst w b (VM I)) (h : ∀ I1 : Nat → Nat → Int32, ∀ J1 : Nat → Nat → Int64, (VM I1 = (scS w b (VM I, J 91 32)).1 ∧ J1 = mj_ul J 91 32 (nxJ (nxJ (J 91 32))) ∧ fr (fun c k => c = 106 ∧ k < 48) I I1) → Φ none (mk I1 J1)) : mj_Met Ω l false mX12_drawCell d 0 0 [.ref 91, .int (nI b)] (mk I J) Φ := by
  refine inX12_drawCell hd (nI b) I J ?_
  obtain ⟨⟨hc, hn⟩, hb, hw, h2, h20, hd2⟩ := hp
  refine ⟨⟨by trivial, mj_isk_mk _ _⟩, by decide, fun I1 J1 h1 => ?_⟩
  obtain ⟨rfl, rfl⟩ := h1
  refine ⟨⟨by trivial, mj_isk_mk _ _⟩, by rw [hw, jn_toInt (by omega)]; omega, fun I1 J1 h1 => ?_⟩
  obtain ⟨rfl, rfl⟩ := h1
  rw [ul_s, ul_u, hw]
  obtain ⟨d1, d2⟩ := drw_n (y := nxJ (nxJ (J 91 32))) (w := w) (by omega) (by omega)
  have hB : isB (nM I) (nI b) := by unfold isB; rw [jn_cl (by omega)]; exact ⟨rfl, hb⟩
  generalize hJ : mj_ul J 91 32 (nxJ (nxJ (J 91 32))) = JJ at h ⊢
  rw [d1]
  refine scan (G := fun k c t => mj_G Ω l false mX12_drawCell d 0 0 Φ 0 0 23 ([some (.ref 91), some (.int (nI b)), some (.int k), some (.int (nI c)), some (.int (nI t))], [], mk I JJ)) (Ψ := fun c k => Φ none (mk (mj_ui (mj_ui I 106 (6 * b) (nI c)) 106 (6 * b + 1) k) JJ)) hd2 (by omega) (by omega) (fun k c t hc2 ht hf hh => ?_) d2 8 (5 + drw (nxJ (J 91 32)) 10) (fbk_ok (by omega) (by omega) _) ?_
  · refine bX12_drawCell_23 hd (nI b) k (nI c) (nI t) I JJ ?_
    refine ⟨⟨by trivial, mj_isk_mk _ _⟩, ⟨⟨hc, hn⟩, hB⟩, ?_⟩
    rw [jn_cl (show b < 2147483648 by omega), hw]
    by_cases z : held b (VM I) (nI c) k
    · rw [if_neg (by rw [b2i_e0]; exact fun q => q z)]
      have hh := hh z
      have wz : ¬ nI w = 0 := by rw [zero_n (by omega)]; omega
      rw [gd_nz wz, jn_succ, jn_succ, jn_rem (by omega) (by omega)]
      by_cases y : t + 1 = w
      · rw [if_pos y] at hh
        rw [if_pos (by rw [y])]
        exact hh
      · rw [if_neg y] at hh
        rw [if_neg (by rw [jn_eq (by omega) (by omega)]; exact y)]
        exact hh
    · rw [if_pos (by rw [b2i_e0]; exact z)]
      simp (disch := omega) only [n6_0, n6_1, jn_in, jn_cl, gd_dec]
      exact hf z
  · have nn : ∀ v, nM (mj_ui I 106 (6 * b) v) = nM I := fun v => by unfold nM; rw [ui_c (by decide)]
    refine h _ JJ ⟨?_, hJ.symm ▸ rfl, fr_ui (fr_ui fr_rf (by (try dsimp only); omega)) (by (try dsimp only); omega)⟩
    rw [VMu_1 (by rw [nn]; exact hb), VMu_0 hb]
    rfl
theorem sdX12_drawCell : mj_Sd mX12_drawCell 3 tX12_drawCell := by
  intro Ω l d hd as M Φ h
  unfold tX12_drawCell at h
  split at h
  · rename_i z_this b_
    obtain ⟨⟨rfl, hM⟩, b, rfl, w, hp, h⟩ := h
    rw [mj_isk_of hM]
    exact mnX12_drawCell hd b w _ _ hp (by
      rw [mj_isk_of hM] at h
      exact h)
  · exact h.elim
theorem vFn_ui {n : Nat} {I : Nat → Nat → Int32} {f b : Nat} {x : Int32} (k : Nat) (hk : k < 8) (hb : b < n) : vF n (mj_ui I (f + 1 + k) b x) f = vup (vF n I f) k b x := by
  funext k' b'
  unfold vF vup
  by_cases h1 : b' < n
  · by_cases h2 : k' < 8
    · simp only [h1, h2, if_true]
      by_cases h3 : k' = k
      · subst h3
        by_cases h4 : b' = b
        · subst h4; simp [ui_s]
        · simp [h4, ui_k h4]
      · simp only [h3, if_false]; rw [ui_c (by omega)]
    · simp only [h1, h2, if_true, if_false]; rw [if_neg (by omega)]
  · simp only [h1, if_false]
    by_cases h3 : k' = k
    · rw [if_pos h3, if_neg (by omega)]
    · rw [if_neg h3]
theorem vFn_c {n : Nat} {I A : Nat → Nat → Int32} {f : Nat} (h : ∀ c k, f + 1 ≤ c → c ≤ f + 8 → A c k = I c k) : vF n A f = vF n I f := by
  funext k b
  unfold vF
  by_cases h1 : b < n
  · by_cases h2 : k < 8
    · rw [if_pos h1, if_pos h1, if_pos h2, if_pos h2]; exact h _ _ (by omega) (by omega)
    · rw [if_pos h1, if_pos h1, if_neg h2, if_neg h2]
  · rw [if_neg h1, if_neg h1]
theorem vFn_at {n : Nat} {I : Nat → Nat → Int32} {f k b : Nat} (hk : k < 8) (hb : b < n) : vF n I f k b = I (f + 1 + k) b := by unfold vF; rw [if_pos hb, if_pos hk]
def csX3_scatter : List (Nat × Nat × Nat × mj_PT) := [(50, 0, 2, mj_rcv 2 tX2_nextS), (56, 0, 3, mj_rcv 3 tX3_isRowFull), (60, 0, 3, mj_rcv 3 tX3_isHeld)]
theorem csX3_scatter_ok : mj_Cs mX3_scatter 2 csX3_scatter := (mj_CsV (D' := 1) (ci := 2) (q := (RX2, TX2, 1)) sdX2_nextS (Nat.le_of_ble_eq_true rfl) fX2_next rfl rfl iX2_next vX2_next (by decide +kernel) l3_50 (mj_CsV (D' := 1) (ci := 3) (q := (RX3, TX3, 10)) sdX3_isRowFull (Nat.le_of_ble_eq_true rfl) fX3_isRowFull rfl rfl iX3_isRowFull vX3_isRowFull (by decide +kernel) l3_56 (mj_CsV (D' := 1) (ci := 3) (q := (RX3, TX3, 10)) sdX3_isHeld (Nat.le_of_ble_eq_true rfl) fX3_isHeld rfl rfl iX3_isHeld vX3_isHeld (by decide +kernel) l3_60 mj_Cs0)))
def cutX3_scatter : List (Nat × List Bool) := [(8, [true, true, true, true, true, false, false, false]), (40, [true, true, true, true, true, true, true, true]), (69, [true, true, true, true, true, true, true, true])]
def pX3_scatter_0 : List (Nat × Instr × Nat) := [(0, .aload_n 0, 1), (1, .getfield 36, 3), (4, .istore_n 3, 1), (5, .iconst 0, 1), (6, .istore 4, 2), (8, .iload 4, 2)]
set_option maxRecDepth 100000 in
theorem dX3_scatter_0 : mj_pd cX3_scatter pX3_scatter_0 := mj_pdB (by decide +kernel)
set_option maxRecDepth 100000 in
set_option maxHeartbeats 4000000 in
theorem inX3_scatter {Ω : mj_Om} {l : Launch} {d : Nat} {Φ : Option Value → mj_M → Prop} (hd : 2 ≤ d) (w_ : Int32) (I : Nat → Nat → Int32) (J : Nat → Nat → Int64)
    (h : ((mj_G Ω l false mX3_scatter d 0 0 Φ 0 0 8 ([some (.ref 48), some (.ref 79), some (.int w_), some (.int (I 48 8)), some (.int (0 : Int32)), none, none, none], [], (mk I J))))) :
    mj_Met Ω l false mX3_scatter d 0 0 [.ref 48, .ref 79, .int w_] (mk I J) Φ := mj_entry (by decide) rfl (fun h => (by cases h)) (Nat.le_of_ble_eq_true rfl) (mj_blk (μ := mX3_scatter) (P := pX3_scatter_0) (cut := cutX3_scatter) (cs := csX3_scatter) dX3_scatter_0 csX3_scatter_ok hd 7 0 _ h)
def pX3_scatter_8 : List (Nat × Instr × Nat) := [(8, .iload 4, 2), (10, .iload_n 3, 1), (11, .if_icmp .ge 139, 3), (14, .aload_n 0, 1), (15, .iload 4, 2), (17, .putfield 36, 3), (20, .iconst 5, 1), (21, .aload_n 1, 1), (22, .bipush 10, 2), (24, .invokevirtual 50, 3), (27, .iadd, 1), (28, .istore 5, 2), (30, .aload_n 1, 1), (31, .iload_n 2, 1), (32, .invokevirtual 50, 3), (35, .istore 6, 2), (37, .iconst 0, 1), (38, .istore 7, 2), (40, .iload 7, 2), (150, .aload_n 0, 1), (151, .iload_n 3, 1), (152, .putfield 36, 3), (155, .return_, 1)]
set_option maxRecDepth 100000 in
theorem dX3_scatter_8 : mj_pd cX3_scatter pX3_scatter_8 := mj_pdB (by decide +kernel)
set_option maxRecDepth 100000 in
set_option maxHeartbeats 4000000 in
theorem bX3_scatter_8 {Ω : mj_Om} {l : Launch} {d : Nat} {Φ : Option Value → mj_M → Prop} (hd : 2 ≤ d) (x2 : Int32) (x3 : Int32) (x4 : Int32) (I : Nat → Nat → Int32) (J : Nat → Nat → Int64)
    (h : ((if x4 < x3 then ((79 = 79 ∧ mj_isk (mk (mj_ui I 48 8 x4) J)) ∧ ((0 < ((10 : Int32)).toInt) ∧ (∀ I3559 : Nat → Nat → Int32, ∀ J3560 : Nat → Nat → Int64, ((mj_ui I 48 8 x4) = I3559 ∧ mj_ul J 79 0 (nxJ (J 79 0)) = J3560) → ((79 = 79 ∧ mj_isk (mk I3559 J3560)) ∧ ((0 < (x2).toInt) ∧ (∀ I3561 : Nat → Nat → Int32, ∀ J3562 : Nat → Nat → Int64, (I3559 = I3561 ∧ mj_ul J3560 79 0 (nxJ (J3560 79 0)) = J3562) → (mj_G Ω l false mX3_scatter d 0 0 Φ 0 0 40 ([some (.ref 48), some (.ref 79), some (.int x2), some (.int x3), some (.int x4), some (.int ((5 : Int32) + (drw (nxJ (J 79 0)) (10 : Int32)))), some (.int (drw (nxJ (J3560 79 0)) x2)), some (.int (0 : Int32))], [], (mk I3561 J3562))))))))) else (Φ none (mk (mj_ui I 48 8 x3) J))))) :
    mj_G Ω l false mX3_scatter d 0 0 Φ 0 0 8 ([some (.ref 48), some (.ref 79), some (.int x2), some (.int x3), some (.int x4), none, none, none], [], mk I J) := mj_blk (μ := mX3_scatter) (P := pX3_scatter_8) (cut := cutX3_scatter) (cs := csX3_scatter) dX3_scatter_8 csX3_scatter_ok hd 24 8 _ h
def pX3_scatter_40 : List (Nat × Instr × Nat) := [(40, .iload 7, 2), (42, .bipush 8, 2), (44, .if_icmp .ge 22, 3), (47, .aload_n 0, 1), (48, .iload 5, 2), (50, .iload_n 2, 1), (51, .invokevirtual 56, 3), (54, .ifCond .eq 12, 3), (57, .iinc 5 1, 3), (60, .iinc 7 1, 3), (63, .goto (-23), 3), (66, .iconst 0, 1), (67, .istore 7, 2), (69, .iload 7, 2)]
set_option maxRecDepth 100000 in
theorem dX3_scatter_40 : mj_pd cX3_scatter pX3_scatter_40 := mj_pdB (by decide +kernel)
set_option maxRecDepth 100000 in
set_option maxHeartbeats 4000000 in
theorem bX3_scatter_40 {Ω : mj_Om} {l : Launch} {d : Nat} {Φ : Option Value → mj_M → Prop} (hd : 2 ≤ d) (x2 : Int32) (x3 : Int32) (x4 : Int32) (x5 : Int32) (x6 : Int32) (x7 : Int32) (I : Nat → Nat → Int32) (J : Nat → Nat → Int64)
    (h : ((if x7 < (8 : Int32) then ((48 = 48 ∧ mj_isk (mk I J)) ∧ ((okF I 48 ∧ x2 = nI (x2).toNatClampNeg) ∧ (if (b2i ((x2).toNatClampNeg ≤ cnt (fun i => VF I 48 1 i = x5) (nF I 48))) = (0 : Int32) then (mj_G Ω l false mX3_scatter d 0 0 Φ 0 0 69 ([some (.ref 48), some (.ref 79), some (.int x2), some (.int x3), some (.int x4), some (.int x5), some (.int x6), some (.int (0 : Int32))], [], (mk I J))) else (mj_G Ω l false mX3_scatter d 0 0 Φ 0 0 40 ([some (.ref 48), some (.ref 79), some (.int x2), some (.int x3), some (.int x4), some (.int (x5 + (1 : Int32))), some (.int x6), some (.int (x7 + (1 : Int32)))], [], (mk I J)))))) else (mj_G Ω l false mX3_scatter d 0 0 Φ 0 0 69 ([some (.ref 48), some (.ref 79), some (.int x2), some (.int x3), some (.int x4), some (.int x5), some (.int x6), some (.int (0 : Int32))], [], (mk I J)))))) :
    mj_G Ω l false mX3_scatter d 0 0 Φ 0 0 40 ([some (.ref 48), some (.ref 79), some (.int x2), some (.int x3), some (.int x4), some (.int x5), some (.int x6), some (.int x7)], [], mk I J) := mj_blk (μ := mX3_scatter) (P := pX3_scatter_40) (cut := cutX3_scatter) (cs := csX3_scatter) dX3_scatter_40 csX3_scatter_ok hd 15 40 _ h
def pX3_scatter_69 : List (Nat × Instr × Nat) := [(8, .iload 4, 2), (69, .iload 7, 2), (71, .iload_n 2, 1), (72, .if_icmp .ge 38, 3), (75, .aload_n 0, 1), (76, .iload 6, 2), (78, .iload 5, 2), (80, .invokevirtual 60, 3), (83, .ifCond .eq 27, 3), (86, .iload 6, 2), (88, .iconst 1, 1), (89, .iadd, 1), (90, .iload_n 2, 1), (91, .if_icmp .ge 10, 3), (94, .iload 6, 2), (96, .iconst 1, 1), (97, .iadd, 1), (98, .goto 4, 3), (101, .iconst 0, 1), (102, .istore 6, 2), (104, .iinc 7 1, 3), (107, .goto (-38), 3), (110, .aload_n 0, 1), (111, .getfield 9, 3), (114, .iload 4, 2), (116, .iload 6, 2), (118, .iastore, 1), (119, .aload_n 0, 1), (120, .getfield 15, 3), (123, .iload 4, 2), (125, .iload 5, 2), (127, .iastore, 1), (128, .aload_n 0, 1), (129, .getfield 30, 3), (132, .iload 4, 2), (134, .iconst 0, 1), (135, .iastore, 1), (136, .aload_n 0, 1), (137, .getfield 33, 3), (140, .iload 4, 2), (142, .iconst 0, 1), (143, .iastore, 1), (144, .iinc 4 1, 3), (147, .goto (-139), 3)]
set_option maxRecDepth 100000 in
theorem dX3_scatter_69 : mj_pd cX3_scatter pX3_scatter_69 := mj_pdB (by decide +kernel)
set_option maxRecDepth 100000 in
set_option maxHeartbeats 4000000 in
theorem bX3_scatter_69 {Ω : mj_Om} {l : Launch} {d : Nat} {Φ : Option Value → mj_M → Prop} (hd : 2 ≤ d) (x2 : Int32) (x3 : Int32) (x4 : Int32) (x5 : Int32) (x6 : Int32) (x7 : Int32) (I : Nat → Nat → Int32) (J : Nat → Nat → Int64)
    (h : ((if x7 < x2 then ((isF3 48 ∧ mj_isk (mk I J)) ∧ ((okF I 48) ∧ (if (b2i (held (nF I 48) (VF I 48) x6 x5)) = (0 : Int32) then (mj_gd (mj_inB x4 8) (mj_gd (mj_inB x4 8) (mj_gd (mj_inB x4 8) (mj_gd (mj_inB x4 8) (mj_G Ω l false mX3_scatter d 0 0 Φ 0 0 8 ([some (.ref 48), some (.ref 79), some (.int x2), some (.int x3), some (.int (x4 + (1 : Int32))), none, none, none], [], (mk (mj_ui (mj_ui (mj_ui (mj_ui I 49 (x4).toNatClampNeg x6) 50 (x4).toNatClampNeg x5) 55 (x4).toNatClampNeg (0 : Int32)) 56 (x4).toNatClampNeg (0 : Int32)) J))))))) else (if (x6 + (1 : Int32)) < x2 then (mj_G Ω l false mX3_scatter d 0 0 Φ 0 0 69 ([some (.ref 48), some (.ref 79), some (.int x2), some (.int x3), some (.int x4), some (.int x5), some (.int (x6 + (1 : Int32))), some (.int (x7 + (1 : Int32)))], [], (mk I J))) else (mj_G Ω l false mX3_scatter d 0 0 Φ 0 0 69 ([some (.ref 48), some (.ref 79), some (.int x2), some (.int x3), some (.int x4), some (.int x5), some (.int (0 : Int32)), some (.int (x7 + (1 : Int32)))], [], (mk I J))))))) else (mj_gd (mj_inB x4 8) (mj_gd (mj_inB x4 8) (mj_gd (mj_inB x4 8) (mj_gd (mj_inB x4 8) (mj_G Ω l false mX3_scatter d 0 0 Φ 0 0 8 ([some (.ref 48), some (.ref 79), some (.int x2), some (.int x3), some (.int (x4 + (1 : Int32))), none, none, none], [], (mk (mj_ui (mj_ui (mj_ui (mj_ui I 49 (x4).toNatClampNeg x6) 50 (x4).toNatClampNeg x5) 55 (x4).toNatClampNeg (0 : Int32)) 56 (x4).toNatClampNeg (0 : Int32)) J)))))))))) :
    mj_G Ω l false mX3_scatter d 0 0 Φ 0 0 69 ([some (.ref 48), some (.ref 79), some (.int x2), some (.int x3), some (.int x4), some (.int x5), some (.int x6), some (.int x7)], [], mk I J) := mj_blk (μ := mX3_scatter) (P := pX3_scatter_69) (cut := cutX3_scatter) (cs := csX3_scatter) dX3_scatter_69 csX3_scatter_ok hd 45 69 _ h
def tX3_scatter : mj_PT := fun as M Φ => match as with
  | [.ref this, .ref q_, .int w_] => ((this = 48 ∧ q_ = 79 ∧ mj_isk M) ∧ (∃ w : Nat, w_ = nI w ∧ ((okF M.2.2.1 48 ∧ 2 ≤ w ∧ w ≤ 20 ∧ (∀ b, b < nF M.2.2.1 48 → M.2.2.1 55 b = 0 ∧ M.2.2.1 56 b = 0)) ∧ (∀ I1 : Nat → Nat → Int32, ∀ J1 : Nat → Nat → Int64, (VF I1 48 = (scN w (nF M.2.2.1 48) (VF M.2.2.1 48, M.2.2.2 79 0)).1 ∧ J1 = mj_ul M.2.2.2 79 0 (scN w (nF M.2.2.1 48) (VF M.2.2.1 48, M.2.2.2 79 0)).2 ∧ okF I1 48 ∧ nF I1 48 = nF M.2.2.1 48 ∧ fr (fun c k => c = 49 ∨ c = 50 ∨ c = 55 ∨ c = 56 ∨ (c = 48 ∧ k = 8)) M.2.2.1 I1) → Φ none (M.1, M.2.1, I1, J1)))))
  | _ => False
set_option maxHeartbeats 8000000 in
theorem mnX3_scatter {Ω : mj_Om} {l : Launch} {d : Nat} {Φ : Option Value → mj_M → Prop} (hd : 2 ≤ d) (w : Nat) (I : Nat → Nat → Int32) (J : Nat → Nat → Int64) (hp : okF I 48 ∧ 2 ≤ w ∧ w ≤ 20 ∧ (∀ b, b < nF I 48 → I 55 b = 0 ∧ I 56 b = 0)) (h : ∀ I1 : Nat → Nat → Int32, ∀ J1 : Nat → Nat → Int64, (VF I1 48 = (scN w (nF I 48) (VF I 48, J 79 0)).1 ∧ J1 = mj_ul J 79 0 (scN w (nF I 48) (VF I 48, J 79 0)).2 ∧ okF I1 48 ∧ nF I1 48 = nF I 48 ∧ fr (fun c k => c = 49 ∨ c = 50 ∨ c = 55 ∨ c = 56 ∨ (c = 48 ∧ k = 8)) I I1) → Φ none (mk I1 J1)) : mj_Met Ω l false mX3_scatter d 0 0 [.ref 48, .ref 79, .int (nI w)] (mk I J) Φ := by
  refine inX3_scatter hd (nI w) I J ?_
  obtain ⟨⟨hc, hn⟩, h2, h20, h0⟩ := hp
  rw [hc]
  refine lp_inv (σ := (Nat → Nat → Int32) × (Nat → Nat → Int64)) (n := nF I 48) (G := fun i p => mj_G Ω l false mX3_scatter d 0 0 Φ 0 0 8 ([some (.ref 48), some (.ref 79), some (.int (nI w)), some (.int (nI (nF I 48))), some (.int (nI i)), none, none, none], [], mk p.1 p.2)) (fun i p => vF (nF I 48) p.1 48 = (scN w i (VF I 48, J 79 0)).1 ∧ p.2 = mj_ul J 79 0 (scN w i (VF I 48, J 79 0)).2 ∧ fr (fun c k => c = 49 ∨ c = 50 ∨ c = 55 ∨ c = 56 ∨ (c = 48 ∧ k = 8)) I p.1 ∧ (∀ b, b < nF I 48 → p.1 55 b = 0 ∧ p.1 56 b = 0)) (fun i p hi hI hk => ?_) (fun p hI => ?_) (nF I 48) 0 (I, J) (by omega) ⟨rfl, ul_id.symm, fr_rf, h0⟩
  · obtain ⟨A, JA⟩ := p
    obtain ⟨hV, hJ, hfr, hz⟩ := hI
    dsimp only at hV hJ hfr hz ⊢
    have hdst := dst_N (w := w) (p := (VF I 48, J 79 0)) (by omega) (by omega) i (by omega)
    have es : scN w (i + 1) (VF I 48, J 79 0) = scS w i (scN w i (VF I 48, J 79 0)) := rfl
    generalize scN w i (VF I 48, J 79 0) = s at *
    refine bX3_scatter_8 hd (nI w) (nI (nF I 48)) (nI i) A JA ?_
    rw [if_pos (nlt hi (by omega))]
    refine ⟨⟨by trivial, mj_isk_mk _ _⟩, by decide, fun I1 J1 h1 => ?_⟩
    obtain ⟨rfl, rfl⟩ := h1
    refine ⟨⟨by trivial, mj_isk_mk _ _⟩, by rw [jn_toInt (by omega)]; omega, fun I1 J1 h1 => ?_⟩
    obtain ⟨rfl, rfl⟩ := h1
    rw [ul_s, ul_u, hJ, ul_s, ul_u]
    obtain ⟨d1, d2⟩ := drw_n (y := nxJ (nxJ s.2)) (w := w) (by omega) (by omega)
    rw [d1]
    generalize hB : mj_ui A 48 8 (nI i) = B
    have nB : nF B 48 = i := by unfold nF; rw [← hB, ui_s, jn_cl (by omega)]
    have oB : okF B 48 := ⟨by rw [nB, ← hB, ui_s], by rw [nB]; omega⟩
    have bA : ∀ c k, 49 ≤ c → B c k = A c k := fun c k q => by rw [← hB, ui_c (by omega)]
    have vB0 : ∀ b, b < i → VF B 48 0 b = s.1 0 b := fun b q => by rw [VF_0 (by omega), ← hV, vFn_at (k := 0) (b := b) (by decide) (by omega)]; exact bA 49 b (by omega)
    have vB1 : ∀ b, b < i → VF B 48 1 b = s.1 1 b := fun b q => by rw [VF_1 (by omega), ← hV, vFn_at (k := 1) (b := b) (by decide) (by omega)]; exact bA 50 b (by omega)
    generalize hJJ : mj_ul J 79 0 (nxJ (nxJ s.2)) = JJ
    have fin : ∀ (c : Nat) (k : Int32), scC w i s = c → scK w i s = k → mj_G Ω l false mX3_scatter d 0 0 Φ 0 0 8 ([some (.ref 48), some (.ref 79), some (.int (nI w)), some (.int (nI (nF I 48))), some (.int (nI (i + 1))), none, none, none], [], mk (mj_ui (mj_ui (mj_ui (mj_ui B 49 i (nI c)) 50 i k) 55 i 0) 56 i 0) JJ) := by
      intro c k e1 e2
      refine hk (mj_ui (mj_ui (mj_ui (mj_ui B 49 i (nI c)) 50 i k) 55 i 0) 56 i 0, JJ) ⟨?_, by rw [es, ← hJJ]; rfl, ?_, fun b hb => ?_⟩
      · dsimp only
        rw [es, scS_e, e1, e2, ← hV]
        have z6 : vF (nF I 48) A 48 6 i = 0 := by rw [vFn_at (by decide) hi]; exact (hz i hi).1
        have z7 : vF (nF I 48) A 48 7 i = 0 := by rw [vFn_at (by decide) hi]; exact (hz i hi).2
        rw [vFn_ui (f := 48) 7 (by decide) hi, vFn_ui (f := 48) 6 (by decide) hi, vFn_ui (f := 48) 1 (by decide) hi, vFn_ui (f := 48) 0 (by decide) hi, vFn_c (I := A) (fun c k q1 q2 => bA c k (by omega))]
        have g6 : vup (vup (vF (nF I 48) A 48) 0 i (nI c)) 1 i k = vup (vup (vup (vF (nF I 48) A 48) 0 i (nI c)) 1 i k) 6 i 0 := by
          have := vup_id (vup (vup (vF (nF I 48) A 48) 0 i (nI c)) 1 i k) 6 i
          rw [vup_k (k' := 6) (by decide), vup_k (k' := 6) (by decide), z6] at this
          exact this.symm
        rw [← g6]
        have g7 := vup_id (vup (vup (vF (nF I 48) A 48) 0 i (nI c)) 1 i k) 7 i
        rw [vup_k (k' := 7) (by decide), vup_k (k' := 7) (by decide), z7] at g7
        exact g7
      · dsimp only
        rw [← hB]
        exact fr_ui (fr_ui (fr_ui (fr_ui (fr_ui hfr (by (try dsimp only); omega)) (by (try dsimp only); omega)) (by (try dsimp only); omega)) (by (try dsimp only); omega)) (by (try dsimp only); omega)
      · dsimp only
        refine ⟨?_, ?_⟩
        · rw [ui_c (by decide)]
          by_cases q : b = i
          · rw [q, ui_s]
          · rw [ui_k q, ui_c (by decide), ui_c (by decide), bA 55 b (by omega)]; exact (hz b hb).1
        · by_cases q : b = i
          · rw [q, ui_s]
          · rw [ui_k q, ui_c (by decide), ui_c (by decide), ui_c (by decide), bA 56 b (by omega)]; exact (hz b hb).2
    have cols : ∀ (k : Int32), scK w i s = k → ∀ (f r c : Nat), f + r = w → c < w → fcl w i s.1 k f c = scC w i s → mj_G Ω l false mX3_scatter d 0 0 Φ 0 0 69 ([some (.ref 48), some (.ref 79), some (.int (nI w)), some (.int (nI (nF I 48))), some (.int (nI i)), some (.int k), some (.int (nI c)), some (.int (nI r))], [], mk B JJ) := by
      intro k ek f
      induction f with
      | zero =>
        intro r c hr hcw hc2
        refine bX3_scatter_69 hd (nI w) (nI (nF I 48)) (nI i) k (nI c) (nI r) B JJ ?_
        rw [if_neg (nnl (by omega) (by omega))]
        simp (disch := omega) only [jn_in, jn_cl, gd_dec, jn_succ]
        exact fin c k hc2.symm ek
      | succ f ih =>
        intro r c hr hcw hc2
        refine bX3_scatter_69 hd (nI w) (nI (nF I 48)) (nI i) k (nI c) (nI r) B JJ ?_
        rw [if_pos (nlt (by omega) (by omega))]
        refine ⟨⟨by unfold isF3; omega, mj_isk_mk _ _⟩, oB, ?_⟩
        rw [nB, heldE vB0 vB1]
        unfold fcl at hc2
        by_cases z : held i s.1 (nI c) k
        · rw [cif_t z] at hc2
          rw [if_neg (by rw [b2i_e0]; exact fun q => q z), jn_succ, jn_succ]
          by_cases y : c + 1 < w
          · rw [if_pos y] at hc2
            rw [if_pos (nlt y (by omega))]
            exact ih (r + 1) (c + 1) (by omega) y hc2
          · rw [if_neg y] at hc2
            rw [if_neg (nnl (by omega) (by omega))]
            exact ih (r + 1) 0 (by omega) (by omega) hc2
        · rw [cif_f z] at hc2
          rw [if_pos (by rw [b2i_e0]; exact z)]
          simp (disch := omega) only [jn_in, jn_cl, gd_dec, jn_succ]
          exact fin c k hc2.symm ek
    have rows : ∀ (f r : Nat) (k : Int32) (c : Nat), f + r = 8 → fbk w i s.1 f k = scK w i s → c = (drw (nxJ (nxJ s.2)) (nI w)).toNatClampNeg → mj_G Ω l false mX3_scatter d 0 0 Φ 0 0 40 ([some (.ref 48), some (.ref 79), some (.int (nI w)), some (.int (nI (nF I 48))), some (.int (nI i)), some (.int k), some (.int (nI c)), some (.int (nI r))], [], mk B JJ) := by
      intro f
      induction f with
      | zero =>
        intro r k c hr hk2 hcc
        refine bX3_scatter_40 hd (nI w) (nI (nF I 48)) (nI i) k (nI c) (nI r) B JJ ?_
        rw [if_neg (show ¬ nI r < (8 : Int32) from nnl (b := 8) (by omega) (by omega))]
        exact cols k hk2.symm w 0 c (by omega) (by rw [hcc]; exact d2) (by unfold scC; rw [← hk2, hcc]; rfl)
      | succ f ih =>
        intro r k c hr hk2 hcc
        refine bX3_scatter_40 hd (nI w) (nI (nF I 48)) (nI i) k (nI c) (nI r) B JJ ?_
        rw [if_pos (show nI r < (8 : Int32) from nlt (b := 8) (by omega) (by omega))]
        refine ⟨⟨by trivial, mj_isk_mk _ _⟩, ⟨oB, by rw [jn_cl (by omega)]⟩, ?_⟩
        rw [jn_cl (show w < 2147483648 by omega), nB, cnt_c (q := fun b => s.1 1 b = k) (fun b hb => by rw [vB1 b hb])]
        unfold fbk at hk2
        by_cases z : w ≤ cnt (fun b => s.1 1 b = k) i
        · rw [cif_t z] at hk2
          rw [if_neg (by rw [b2i_e0]; exact fun q => q z), jn_succ]
          exact ih (r + 1) (k + 1) c (by omega) hk2 hcc
        · rw [cif_f z] at hk2
          rw [if_pos (by rw [b2i_e0]; exact z)]
          exact cols k hk2.symm w 0 c (by omega) (by rw [hcc]; exact d2) (by unfold scC; rw [← hk2, hcc])
    exact rows 8 0 (5 + drw (nxJ s.2) 10) _ (by omega) rfl rfl
  · obtain ⟨A, JA⟩ := p
    obtain ⟨hV, hJ, hfr, hz⟩ := hI
    dsimp only at hV hJ hfr hz ⊢
    refine bX3_scatter_8 hd (nI w) (nI (nF I 48)) (nI (nF I 48)) A JA ?_
    rw [if_neg Int32.lt_irrefl]
    have nB : nF (mj_ui A 48 8 (nI (nF I 48))) 48 = nF I 48 := by rw [show nF (mj_ui A 48 8 (nI (nF I 48))) 48 = (nI (nF I 48)).toNatClampNeg by unfold nF; rw [ui_s], jn_cl (by omega)]
    refine h _ JA ⟨?_, hJ, ⟨by rw [nB, ui_s], by rw [nB]; exact hn⟩, nB, fr_ui hfr (by (try dsimp only); omega)⟩
    unfold VF
    rw [nB, vFn_c (I := A) (fun c k q1 q2 => ui_c (by omega))]
    exact hV
theorem sdX3_scatter : mj_Sd mX3_scatter 2 tX3_scatter := by
  intro Ω l d hd as M Φ h
  unfold tX3_scatter at h
  split at h
  · rename_i z_this z_q w_
    obtain ⟨⟨rfl, rfl, hM⟩, w, rfl, hp, h⟩ := h
    rw [mj_isk_of hM]
    exact mnX3_scatter hd w _ _ hp (by
      rw [mj_isk_of hM] at h
      exact h)
  · exact h.elim
