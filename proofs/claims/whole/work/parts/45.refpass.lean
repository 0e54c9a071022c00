/-! ===== the reference's seconds: speeds, a second, to the gun (by program, wip/whole/pu.py) ===== -/
theorem nar_b (p : Prop) : vp_nar .boolean (b2i p) = b2i p := by
  rcases b2i_or p with q | q <;> rw [q] <;> decide
noncomputable def spdV (n : Nat) (C : Nat → Int32) (R : RF) (F : Vw) (s h k : Int32) : Vw := cif (h = -1) (askV n C R F s (-1)) (cif (0 < k) (vup (askV n C R F s h) 2 h.toNatClampNeg 0) (vup (askV n C R F s h) 2 h.toNatClampNeg (asp (F 2 h.toNatClampNeg) (F 3 h.toNatClampNeg) 1)))
noncomputable def hsF (h k : Int32) : Int32 := cif (¬ h = -1 ∧ 0 < k) (k - 1) k
noncomputable def passG (n : Nat) (C : Nat → Int32) (R : RF) (F : Vw) (s h k : Int32) : Vw := moveV n C (shV n F) (F 1) (spdV n C R F s h k) s
noncomputable def gunG (n : Nat) (C : Nat → Int32) (R : RF) (h : Int32) : Nat → Int32 → Vw → Int32 → Vw
  | 0, _, F, _ => F
  | l + 1, k, F, s => gunG n C R h l (hsF h k) (passG n C R F s h k) (s + 1)
def hOk (n : Nat) (h : Int32) : Prop := h = -1 ∨ ∃ b, b < n ∧ h = nI b
theorem nI_m1 {b : Nat} (hb : b < 100) : ¬ nI b = -1 := by
  intro w
  rw [← Int32.toInt_inj, jn_toInt (by omega)] at w
  have : (-1 : Int32).toInt = -1 := rfl
  omega
theorem passG_V {n : Nat} {C : Nat → Int32} {R : RF} {F : Vw} {s k : Int32} : passG n C R F s (-1) k = passV n C R F s := by
  unfold passG spdV passV
  rw [cif_t rfl]
theorem passG_H {n b : Nat} {C : Nat → Int32} {R : RF} {F : Vw} {s k : Int32} (hb : b < 100) (hk : 0 < k) : passG n C R F s (nI b) k = passH n C R b F s := by
  unfold passG spdV passH
  rw [cif_f (nI_m1 hb), cif_t hk, jn_cl (by omega)]
theorem passG_R {n b : Nat} {C : Nat → Int32} {R : RF} {F : Vw} {s k : Int32} (hb : b < 100) (hk : ¬ 0 < k) : passG n C R F s (nI b) k = passR n C R b F s := by
  unfold passG spdV passR
  rw [cif_f (nI_m1 hb), cif_f hk, jn_cl (by omega)]
theorem FOk_passG {u : Int} {n : Nat} {C : Nat → Int32} {R : RF} {F : Vw} {s h k : Int32} (hn : n ≤ 8) (hh : hOk n h) (hF : FOk u n C F s) (hs : s.toInt < (C 5).toInt) : FOk u n C (passG n C R F s h k) (s + 1) := by
  rcases hh with rfl | ⟨b, hb, rfl⟩
  · rw [passG_V]; exact FOk_pass hn hF hs
  · by_cases q : 0 < k
    · rw [passG_H (by omega) q]; exact FOk_passH hn hF hs
    · rw [passG_R (by omega) q]; exact FOk_passR hn hF hs
theorem FOk_spB {u : Int} {n : Nat} {C : Nat → Int32} {F : Vw} {s : Int32} {b : Nat} (h : FOk u n C F s) (hb : b < n) : spB F b := by
  have := h.2.2 b hb
  exact ⟨this.2.2.1, this.2.2.2.1.2⟩
theorem sgnI_or (x : Int32) : sgnI x = -1 ∨ sgnI x = 0 ∨ sgnI x = 1 := by
  unfold sgnI
  split
  · simp
  · split <;> simp
theorem askI_sp {n : Nat} {C : Nat → Int32} {R : RF} {F : Vw} {s skip : Int32} {i b : Nat} (h : spB F b) : spB (askI n C R F s skip i) b := by
  unfold spB
  rw [askI_k (k := 3) (by decide)]
  refine ⟨?_, h.2⟩
  by_cases q : b < i
  · have e : askI n C R F s skip i 2 b = if nI b = skip then F 2 b else asp (F 2 b) (F 3 b) (R (F 5 b) (lettV n C F s b)) := by simp [askI, q]
    rw [e]
    split
    · exact h.1
    · exact asp_ok h.1 h.2
  · have e : askI n C R F s skip i 2 b = F 2 b := by simp [askI, q]
    rw [e]; exact h.1
def csX12_speedAll : List (Nat × Nat × Nat × mj_PT) := [(274, 0, 4, mj_rcv 12 tX12_put_), (283, 0, 3, mj_rcv 12 tX12_of), (297, 0, 2, mj_rcv 12 tX12_isShadowed), (337, 0, 2, mj_rcv 12 tX12_wantsOf), (340, 0, 3, mj_rcv 12 tX12_fasterS)]
theorem csX12_speedAll_ok : mj_Cs mX12_speedAll 7 csX12_speedAll := (mj_CsV (D' := 1) (ci := 12) (q := (RX12, TX12, 45)) sdX12_put_ (Nat.le_of_ble_eq_true rfl) fX12_put_ rfl rfl iX12_put_ vX12_put_ (by decide +kernel) l12_274 (mj_CsV (D' := 1) (ci := 12) (q := (RX12, TX12, 45)) sdX12_of (Nat.le_of_ble_eq_true rfl) fX12_of rfl rfl iX12_of vX12_of (by decide +kernel) l12_283 (mj_CsV (D' := 2) (ci := 12) (q := (RX12, TX12, 45)) sdX12_isShadowed (Nat.le_of_ble_eq_true rfl) fX12_isShadowed rfl rfl iX12_isShadowed vX12_isShadowed (by decide +kernel) l12_297 (mj_CsV (D' := 6) (ci := 12) (q := (RX12, TX12, 45)) sdX12_wantsOf (Nat.le_of_ble_eq_true rfl) fX12_wantsOf rfl rfl iX12_wantsOf vX12_wantsOf (by decide +kernel) l12_337 (mj_CsV (D' := 2) (ci := 12) (q := (RX12, TX12, 45)) sdX12_fasterS (Nat.le_of_ble_eq_true rfl) fX12_faster rfl rfl iX12_faster vX12_faster (by decide +kernel) l12_340 mj_Cs0)))))
def cutX12_speedAll : List (Nat × List Bool) := [(2, [true, true]), (21, [true, true]), (33, [true, true]), (56, [true, true]), (64, [true, true]), (89, [true, true])]
def pX12_speedAll_0 : List (Nat × Instr × Nat) := [(0, .iconst 0, 1), (1, .istore_n 1, 1), (2, .iload_n 1, 1)]
set_option maxRecDepth 100000 in
theorem dX12_speedAll_0 : mj_pd cX12_speedAll pX12_speedAll_0 := mj_pdB (by decide +kernel)
set_option maxRecDepth 100000 in
set_option maxHeartbeats 4000000 in
theorem inX12_speedAll {Ω : mj_Om} {l : Launch} {d : Nat} {Φ : Option Value → mj_M → Prop} (hd : 7 ≤ d) (I : Nat → Nat → Int32) (J : Nat → Nat → Int64)
    (h : ((mj_G Ω l false mX12_speedAll d 0 0 Φ 0 0 2 ([some (.ref 91), some (.int (0 : Int32))], [], (mk I J))))) :
    mj_Met Ω l false mX12_speedAll d 0 0 [.ref 91] (mk I J) Φ := mj_entry (by decide) rfl (fun h => (by cases h)) (Nat.le_of_ble_eq_true rfl) (mj_blk (μ := mX12_speedAll) (P := pX12_speedAll_0) (cut := cutX12_speedAll) (cs := csX12_speedAll) dX12_speedAll_0 csX12_speedAll_ok hd 4 0 _ h)
def pX12_speedAll_2 : List (Nat × Instr × Nat) := [(2, .iload_n 1, 1), (3, .aload_n 0, 1), (4, .getfield 255, 3), (7, .if_icmp .ge 55, 3), (10, .aload_n 0, 1), (11, .getfield 59, 3), (14, .iload_n 1, 1), (15, .aload_n 0, 1), (16, .iload_n 1, 1), (17, .invokevirtual 297, 3), (20, .bastore, 1), (21, .aload_n 0, 1), (62, .iconst 0, 1), (63, .istore_n 1, 1), (64, .iload_n 1, 1)]
set_option maxRecDepth 100000 in
theorem dX12_speedAll_2 : mj_pd cX12_speedAll pX12_speedAll_2 := mj_pdB (by decide +kernel)
set_option maxRecDepth 100000 in
set_option maxHeartbeats 4000000 in
theorem bX12_speedAll_2 {Ω : mj_Om} {l : Launch} {d : Nat} {Φ : Option Value → mj_M → Prop} (hd : 7 ≤ d) (x1 : Int32) (I : Nat → Nat → Int32) (J : Nat → Nat → Int64)
    (h : ((if x1 < (I 91 22) then ((91 = 91 ∧ mj_isk (mk I J)) ∧ ((okM I ∧ isB (nM I) x1 ∧ colB (nM I) (VM I)) ∧ (mj_gd (mj_inB x1 8) (mj_G Ω l false mX12_speedAll d 0 0 Φ 0 0 21 ([some (.ref 91), some (.int x1)], [], (mk (mj_ui I 107 (x1).toNatClampNeg (vp_nar .boolean (b2i (shad (nM I) (VM I) (x1).toNatClampNeg)))) J)))))) else (mj_G Ω l false mX12_speedAll d 0 0 Φ 0 0 64 ([some (.ref 91), some (.int (0 : Int32))], [], (mk I J)))))) :
    mj_G Ω l false mX12_speedAll d 0 0 Φ 0 0 2 ([some (.ref 91), some (.int x1)], [], mk I J) := mj_blk (μ := mX12_speedAll) (P := pX12_speedAll_2) (cut := cutX12_speedAll) (cs := csX12_speedAll) dX12_speedAll_2 csX12_speedAll_ok hd 16 2 _ h
def pX12_speedAll_21 : List (Nat × Instr × Nat) := [(21, .aload_n 0, 1), (22, .getfield 63, 3), (25, .iload_n 1, 1), (26, .aload_n 0, 1), (27, .iload_n 1, 1), (28, .iconst 1, 1), (29, .invokevirtual 283, 3), (32, .iastore, 1), (33, .aload_n 0, 1)]
set_option maxRecDepth 100000 in
theorem dX12_speedAll_21 : mj_pd cX12_speedAll pX12_speedAll_21 := mj_pdB (by decide +kernel)
set_option maxRecDepth 100000 in
set_option maxHeartbeats 4000000 in
theorem bX12_speedAll_21 {Ω : mj_Om} {l : Launch} {d : Nat} {Φ : Option Value → mj_M → Prop} (hd : 7 ≤ d) (x1 : Int32) (I : Nat → Nat → Int32) (J : Nat → Nat → Int64)
    (h : ((mj_gd (mj_inB (((6 : Int32) * x1) + (1 : Int32)) 49) (mj_gd (mj_inB x1 8) (mj_G Ω l false mX12_speedAll d 0 0 Φ 0 0 33 ([some (.ref 91), some (.int x1)], [], (mk (mj_ui I 108 (x1).toNatClampNeg (I 106 ((((6 : Int32) * x1) + (1 : Int32))).toNatClampNeg)) J))))))) :
    mj_G Ω l false mX12_speedAll d 0 0 Φ 0 0 21 ([some (.ref 91), some (.int x1)], [], mk I J) := mj_blk (μ := mX12_speedAll) (P := pX12_speedAll_21) (cut := cutX12_speedAll) (cs := csX12_speedAll) dX12_speedAll_21 csX12_speedAll_ok hd 10 21 _ h
def pX12_speedAll_33 : List (Nat × Instr × Nat) := [(33, .aload_n 0, 1), (34, .getfield 66, 3), (37, .iload_n 1, 1), (38, .iload_n 1, 1), (39, .aload_n 0, 1), (40, .getfield 55, 3), (43, .if_icmp .ne 7, 3), (46, .iconst 0, 1), (47, .goto 8, 3), (50, .aload_n 0, 1), (51, .iload_n 1, 1), (52, .invokevirtual 337, 3), (55, .iastore, 1), (56, .iinc 1 1, 3)]
set_option maxRecDepth 100000 in
theorem dX12_speedAll_33 : mj_pd cX12_speedAll pX12_speedAll_33 := mj_pdB (by decide +kernel)
set_option maxRecDepth 100000 in
set_option maxHeartbeats 4000000 in
theorem bX12_speedAll_33 {Ω : mj_Om} {l : Launch} {d : Nat} {Φ : Option Value → mj_M → Prop} (hd : 7 ≤ d) (x1 : Int32) (I : Nat → Nat → Int32) (J : Nat → Nat → Int64)
    (h : ((if x1 = (I 91 25) then (mj_gd (mj_inB x1 8) (mj_G Ω l false mX12_speedAll d 0 0 Φ 0 0 56 ([some (.ref 91), some (.int x1)], [], (mk (mj_ui I 109 (x1).toNatClampNeg (0 : Int32)) J)))) else ((91 = 91 ∧ mj_isk (mk I J)) ∧ (∃ b279 : Nat, x1 = nI b279 ∧ (∃ u280 : Int, (∃ m281 : Nat, (∃ R282 : RF, ((u280 ≤ 1000 ∧ FM u280 I ∧ RuM I m281 R282 ∧ b279 < nM I) ∧ (∀ I283 : Nat → Nat → Int32, (fr (fun c _ => c = 100 ∨ c = 101) I I283) → (mj_gd (mj_inB x1 8) (mj_G Ω l false mX12_speedAll d 0 0 Φ 0 0 56 ([some (.ref 91), some (.int x1)], [], (mk (mj_ui I283 109 (x1).toNatClampNeg (sgnI (R282 (VM I 5 b279) (lettV (nM I) (lv7 (I 104)) (VM I) (I 106 48) b279)))) J)))))))))))))) :
    mj_G Ω l false mX12_speedAll d 0 0 Φ 0 0 33 ([some (.ref 91), some (.int x1)], [], mk I J) := mj_blk (μ := mX12_speedAll) (P := pX12_speedAll_33) (cut := cutX12_speedAll) (cs := csX12_speedAll) dX12_speedAll_33 csX12_speedAll_ok hd 15 33 _ h
def pX12_speedAll_56 : List (Nat × Instr × Nat) := [(2, .iload_n 1, 1), (56, .iinc 1 1, 3), (59, .goto (-57), 3)]
set_option maxRecDepth 100000 in
theorem dX12_speedAll_56 : mj_pd cX12_speedAll pX12_speedAll_56 := mj_pdB (by decide +kernel)
set_option maxRecDepth 100000 in
set_option maxHeartbeats 4000000 in
theorem bX12_speedAll_56 {Ω : mj_Om} {l : Launch} {d : Nat} {Φ : Option Value → mj_M → Prop} (hd : 7 ≤ d) (x1 : Int32) (I : Nat → Nat → Int32) (J : Nat → Nat → Int64)
    (h : ((mj_G Ω l false mX12_speedAll d 0 0 Φ 0 0 2 ([some (.ref 91), some (.int (x1 + (1 : Int32)))], [], (mk I J))))) :
    mj_G Ω l false mX12_speedAll d 0 0 Φ 0 0 56 ([some (.ref 91), some (.int x1)], [], mk I J) := mj_blk (μ := mX12_speedAll) (P := pX12_speedAll_56) (cut := cutX12_speedAll) (cs := csX12_speedAll) dX12_speedAll_56 csX12_speedAll_ok hd 4 56 _ h
def pX12_speedAll_64 : List (Nat × Instr × Nat) := [(64, .iload_n 1, 1), (65, .aload_n 0, 1), (66, .getfield 255, 3), (69, .if_icmp .ge 20, 3), (72, .aload_n 0, 1), (73, .iload_n 1, 1), (74, .aload_n 0, 1), (75, .getfield 66, 3), (78, .iload_n 1, 1), (79, .iaload, 1), (80, .invokevirtual 340, 3), (83, .iinc 1 1, 3), (86, .goto (-22), 3), (89, .aload_n 0, 1)]
set_option maxRecDepth 100000 in
theorem dX12_speedAll_64 : mj_pd cX12_speedAll pX12_speedAll_64 := mj_pdB (by decide +kernel)
set_option maxRecDepth 100000 in
set_option maxHeartbeats 4000000 in
theorem bX12_speedAll_64 {Ω : mj_Om} {l : Launch} {d : Nat} {Φ : Option Value → mj_M → Prop} (hd : 7 ≤ d) (x1 : Int32) (I : Nat → Nat → Int32) (J : Nat → Nat → Int64)
    (h : ((if x1 < (I 91 22) then (mj_gd (mj_inB x1 8) ((91 = 91 ∧ mj_isk (mk I J)) ∧ (∃ b285 : Nat, x1 = nI b285 ∧ ((okM I ∧ b285 < nM I ∧ spB (VM I) b285 ∧ ((I 109 (x1).toNatClampNeg) = -1 ∨ (I 109 (x1).toNatClampNeg) = 0 ∨ (I 109 (x1).toNatClampNeg) = 1)) ∧ (∀ I286 : Nat → Nat → Int32, (VM I286 = vup (VM I) 2 b285 (asp (VM I 2 b285) (VM I 3 b285) (I 109 (x1).toNatClampNeg)) ∧ fr (fun c k => c = 106 ∧ k < 48) I I286) → (mj_G Ω l false mX12_speedAll d 0 0 Φ 0 0 64 ([some (.ref 91), some (.int (x1 + (1 : Int32)))], [], (mk I286 J)))))))) else (mj_G Ω l false mX12_speedAll d 0 0 Φ 0 0 89 ([some (.ref 91), some (.int x1)], [], (mk I J)))))) :
    mj_G Ω l false mX12_speedAll d 0 0 Φ 0 0 64 ([some (.ref 91), some (.int x1)], [], mk I J) := mj_blk (μ := mX12_speedAll) (P := pX12_speedAll_64) (cut := cutX12_speedAll) (cs := csX12_speedAll) dX12_speedAll_64 csX12_speedAll_ok hd 15 64 _ h
def pX12_speedAll_89 : List (Nat × Instr × Nat) := [(89, .aload_n 0, 1), (90, .getfield 55, 3), (93, .iconst (-1), 1), (94, .if_icmp .eq 42, 3), (97, .aload_n 0, 1), (98, .getfield 343, 3), (101, .ifCond .le 26, 3), (104, .aload_n 0, 1), (105, .aload_n 0, 1), (106, .getfield 55, 3), (109, .iconst 2, 1), (110, .iconst 0, 1), (111, .invokevirtual 274, 3), (114, .aload_n 0, 1), (115, .dup, 1), (116, .getfield 343, 3), (119, .iconst 1, 1), (120, .isub, 1), (121, .putfield 343, 3), (124, .goto 12, 3), (127, .aload_n 0, 1), (128, .aload_n 0, 1), (129, .getfield 55, 3), (132, .iconst 1, 1), (133, .invokevirtual 340, 3), (136, .return_, 1)]
set_option maxRecDepth 100000 in
theorem dX12_speedAll_89 : mj_pd cX12_speedAll pX12_speedAll_89 := mj_pdB (by decide +kernel)
set_option maxRecDepth 100000 in
set_option maxHeartbeats 4000000 in
theorem bX12_speedAll_89 {Ω : mj_Om} {l : Launch} {d : Nat} {Φ : Option Value → mj_M → Prop} (hd : 7 ≤ d) (x1 : Int32) (I : Nat → Nat → Int32) (J : Nat → Nat → Int64)
    (h : ((if (I 91 25) = (-1 : Int32) then (Φ none (mk I J)) else (if (0 : Int32) < (I 91 26) then (mj_gd (mj_inB (((6 : Int32) * (I 91 25)) + (2 : Int32)) 49) (Φ none (mk (mj_ui (mj_ui I 106 ((((6 : Int32) * (I 91 25)) + (2 : Int32))).toNatClampNeg (0 : Int32)) 91 26 ((I 91 26) - (1 : Int32))) J))) else ((91 = 91 ∧ mj_isk (mk I J)) ∧ (∃ b288 : Nat, (I 91 25) = nI b288 ∧ ((okM I ∧ b288 < nM I ∧ spB (VM I) b288 ∧ ((1 : Int32) = -1 ∨ (1 : Int32) = 0 ∨ (1 : Int32) = 1)) ∧ (∀ I289 : Nat → Nat → Int32, (VM I289 = vup (VM I) 2 b288 (asp (VM I 2 b288) (VM I 3 b288) (1 : Int32)) ∧ fr (fun c k => c = 106 ∧ k < 48) I I289) → (Φ none (mk I289 J)))))))))) :
    mj_G Ω l false mX12_speedAll d 0 0 Φ 0 0 89 ([some (.ref 91), some (.int x1)], [], mk I J) := mj_blk (μ := mX12_speedAll) (P := pX12_speedAll_89) (cut := cutX12_speedAll) (cs := csX12_speedAll) dX12_speedAll_89 csX12_speedAll_ok hd 27 89 _ h
def tX12_speedAll : mj_PT := fun as M Φ => match as with
  | [.ref this] => ((this = 91 ∧ mj_isk M) ∧ (∃ u : Int, (∃ m : Nat, (∃ R : RF, ((u ≤ 1000 ∧ FM u M.2.2.1 ∧ RuM M.2.2.1 m R ∧ hOk (nM M.2.2.1) (M.2.2.1 91 25)) ∧ (∀ I1 : Nat → Nat → Int32, (VM I1 = spdV (nM M.2.2.1) (lv7 (M.2.2.1 104)) R (VM M.2.2.1) (M.2.2.1 106 48) (M.2.2.1 91 25) (M.2.2.1 91 26) ∧ (∀ b, b < nM M.2.2.1 → I1 107 b = shV (nM M.2.2.1) (VM M.2.2.1) b ∧ I1 108 b = (VM M.2.2.1) 1 b) ∧ I1 91 26 = hsF (M.2.2.1 91 25) (M.2.2.1 91 26) ∧ (∀ b, b < nM M.2.2.1 → spB (VM I1) b) ∧ fr (fun c k => c = 100 ∨ c = 101 ∨ (c = 106 ∧ k < 48) ∨ c = 107 ∨ c = 108 ∨ c = 109 ∨ (c = 91 ∧ k = 26)) M.2.2.1 I1) → Φ none (M.1, M.2.1, I1, M.2.2.2)))))))
  | _ => False
set_option maxHeartbeats 8000000 in
theorem mnX12_speedAll {Ω : mj_Om} {l : Launch} {d : Nat} {Φ : Option Value → mj_M → Prop} (hd : 7 ≤ d) (u : Int) (m : Nat) (R : RF) (I : Nat → Nat → Int32) (J : Nat → Nat → Int64) (hp : u ≤ 1000 ∧ FM u I ∧ RuM I m R ∧ hOk (nM I) (I 91 25)) (h : ∀ I1 : Nat → Nat → Int32, (VM I1 = spdV (nM I) (lv7 (I 104)) R (VM I) (I 106 48) (I 91 25) (I 91 26) ∧ (∀ b, b < nM I → I1 107 b = shV (nM I) (VM I) b ∧ I1 108 b = (VM I) 1 b) ∧ I1 91 26 = hsF (I 91 25) (I 91 26) ∧ (∀ b, b < nM I → spB (VM I1) b) ∧ fr (fun c k => c = 100 ∨ c = 101 ∨ (c = 106 ∧ k < 48) ∨ c = 107 ∨ c = 108 ∨ c = 109 ∨ (c = 91 ∧ k = 26)) I I1) → Φ none (mk I1 J)) : mj_Met Ω l false mX12_speedAll d 0 0 [.ref 91] (mk I J) Φ := by
  refine inX12_speedAll hd I J ?_
  obtain ⟨hu, ⟨⟨hc, hn⟩, hF⟩, hR, hh⟩ := hp
  have hcb := FOk_col hF
  have k89 : ∀ (x1 : Int32) (I' : Nat → Nat → Int32), fr (fun c k => c = 100 ∨ c = 101 ∨ (c = 106 ∧ k < 48) ∨ c = 107 ∨ c = 108 ∨ c = 109 ∨ (c = 91 ∧ k = 26)) I I' → VM I' = askV (nM I) (lv7 (I 104)) R (VM I) (I 106 48) (I 91 25) → (∀ b, b < nM I → I' 107 b = shV (nM I) (VM I) b ∧ I' 108 b = VM I 1 b) → I' 91 26 = I 91 26 → mj_G Ω l false mX12_speedAll d 0 0 Φ 0 0 89 ([some (.ref 91), some (.int x1)], [], mk I' J) := by
    intro x1 I' hfr hV h78 h26
    refine bX12_speedAll_89 hd x1 I' J ?_
    obtain ⟨ho, hn2, -⟩ := mM_fr hfr (by (try dsimp only); omega) ⟨hc, hn⟩
    rw [hfr 91 25 (by (try dsimp only); omega), h26]
    have hsp0 : ∀ b, b < nM I → spB (VM I') b := fun b hb => by rw [hV, ← askI_V]; exact askI_sp (FOk_spB hF hb)
    rcases hh with hh | ⟨b, hb, hh⟩
    · rw [if_pos hh]
      refine h I' ⟨?_, h78, ?_, hsp0, hfr⟩
      · unfold spdV
        rw [cif_t hh, hV, hh]
      · unfold hsF
        rw [cif_f (fun w => w.1 hh)]; exact h26
    · rw [hh] at h hV ⊢
      rw [if_neg (nI_m1 (by omega))]
      have a2 : VM I' 2 b = VM I 2 b := by rw [hV, askV_s]
      have a3 : VM I' 3 b = VM I 3 b := by rw [hV, askV_k (by decide)]
      by_cases q : 0 < I 91 26
      · rw [if_pos q]
        simp (disch := omega) only [jn_in, jn_cl, gd_dec, n6_2]
        have eV : VM (mj_ui (mj_ui I' 106 (6 * b + 2) 0) 91 26 (I 91 26 - 1)) = vup (VM I') 2 b 0 := by rw [VM_uf (by decide), VMu_2 (by omega)]
        refine h _ ⟨?_, fun c hc2 => ?_, ?_, fun c hc2 => ?_, fr_ui (fr_ui hfr (by (try dsimp only); omega)) (by (try dsimp only); omega)⟩
        · unfold spdV
          rw [cif_f (nI_m1 (by omega)), cif_t q, jn_cl (by omega), eV, hV]
        · rw [ui_c (by decide), ui_c (by decide), ui_c (by decide), ui_c (by decide)]
          exact h78 c hc2
        · unfold hsF
          rw [cif_t ⟨nI_m1 (by omega), q⟩, ui_s]
        · rw [eV]
          exact spB_up (hsp0 c hc2) (fun _ _ => ⟨by decide, by rw [i_0]; have := (hsp0 c hc2).1; omega⟩) (by decide)
      · rw [if_neg q]
        refine ⟨⟨by trivial, mj_isk_mk _ _⟩, b, rfl, ⟨ho, by omega, hsp0 b hb, Or.inr (Or.inr rfl)⟩, fun I9 h9 => ?_⟩
        refine h I9 ⟨?_, fun c hc2 => ?_, ?_, fun c hc2 => ?_, fun a k w => ?_⟩
        · unfold spdV
          rw [cif_f (nI_m1 (by omega)), cif_f q, jn_cl (by omega), h9.1, a2, a3, hV]
        · rw [h9.2 107 c (by (try dsimp only); omega), h9.2 108 c (by (try dsimp only); omega)]
          exact h78 c hc2
        · unfold hsF
          rw [cif_f (fun w => q w.2), h9.2 91 26 (by (try dsimp only); omega)]; exact h26
        · rw [h9.1]
          refine spB_up (hsp0 c hc2) (fun _ e => ?_) (by decide)
          subst e
          exact asp_ok (hsp0 b hb).1 (hsp0 b hb).2
        · try dsimp only at w
          rw [h9.2 a k (by (try dsimp only); omega), hfr a k w]
  have k64 : ∀ (I' : Nat → Nat → Int32), fr (fun c _ => c = 100 ∨ c = 101 ∨ c = 107 ∨ c = 108 ∨ c = 109) I I' → (∀ b, b < nM I → I' 107 b = shV (nM I) (VM I) b ∧ I' 108 b = VM I 1 b ∧ I' 109 b = (if nI b = I 91 25 then 0 else sgnI (R (VM I 5 b) (lettV (nM I) (lv7 (I 104)) (VM I) (I 106 48) b)))) → mj_G Ω l false mX12_speedAll d 0 0 Φ 0 0 64 ([some (.ref 91), some (.int (nI 0))], [], mk I' J) := by
    intro I' hfr0 hall
    obtain ⟨w1, w2, w3⟩ := MM_fr (I := I) (I1 := I') (hfr0 91 22 (by (try dsimp only); omega)) (fun k => hfr0 105 k (by (try dsimp only); omega)) (fun k => hfr0 106 k (by (try dsimp only); omega))
    refine lp_inv (σ := Nat → Nat → Int32) (n := nM I) (G := fun i I3 => mj_G Ω l false mX12_speedAll d 0 0 Φ 0 0 64 ([some (.ref 91), some (.int (nI i))], [], mk I3 J)) (fun i I3 => VM I3 = askI (nM I) (lv7 (I 104)) R (VM I) (I 106 48) (I 91 25) i ∧ fr (fun c k => c = 106 ∧ k < 48) I' I3) (fun i I3 hi hI hk => ?_) (fun I3 hI => ?_) (nM I) 0 I' (by omega) ⟨by rw [w2, askI_0], fr_rf⟩
    · refine bX12_speedAll_64 hd (nI i) I3 J ?_
      obtain ⟨hV, hfr3⟩ := hI
      obtain ⟨ho, hn2, h82⟩ := mM_fr hfr3 (by (try dsimp only); omega) (w3 ⟨hc, hn⟩)
      rw [w1] at hn2 h82
      rw [h82, if_pos (by rw [jn_lt (by omega) (by omega)]; exact hi)]
      simp (disch := omega) only [jn_in, jn_cl, gd_dec, jn_succ]
      have a9 : I3 109 i = (if nI i = I 91 25 then 0 else sgnI (R (VM I 5 i) (lettV (nM I) (lv7 (I 104)) (VM I) (I 106 48) i))) := by
        rw [hfr3 109 i (by (try dsimp only); omega)]
        exact (hall i hi).2.2
      refine ⟨⟨by trivial, mj_isk_mk _ _⟩, i, rfl, ⟨ho, by omega, by rw [hV]; exact askI_sp (FOk_spB hF hi), ?_⟩, fun I4 h4 => hk I4 ⟨?_, fr_tr hfr3 h4.2⟩⟩
      · rw [a9]
        split
        · exact Or.inr (Or.inl rfl)
        · exact sgnI_or _
      · rw [h4.1, a9, hV, askI_2, askI_k (k := 3) (by decide), askI_s]
        split
        · rw [asp_0]
        · rw [asp_sgn]
    · refine bX12_speedAll_64 hd (nI (nM I)) I3 J ?_
      obtain ⟨hV, hfr3⟩ := hI
      obtain ⟨ho, hn2, h82⟩ := mM_fr hfr3 (by (try dsimp only); omega) (w3 ⟨hc, hn⟩)
      rw [w1] at hn2 h82
      rw [h82, if_neg (by rw [jn_lt (by omega) (by omega)]; omega)]
      refine k89 _ I3 (fun a k w => ?_) (by rw [hV, askI_V]) (fun b hb => ?_) ?_
      · try dsimp only at w
        rw [hfr3 a k (by (try dsimp only); omega), hfr0 a k (by (try dsimp only); omega)]
      · rw [hfr3 107 b (by (try dsimp only); omega), hfr3 108 b (by (try dsimp only); omega)]
        exact ⟨(hall b hb).1, (hall b hb).2.1⟩
      · rw [hfr3 91 26 (by (try dsimp only); omega), hfr0 91 26 (by (try dsimp only); omega)]
  refine lp_inv (σ := Nat → Nat → Int32) (n := nM I) (G := fun i I' => mj_G Ω l false mX12_speedAll d 0 0 Φ 0 0 2 ([some (.ref 91), some (.int (nI i))], [], mk I' J)) (fun i I' => (∀ b, b < i → I' 107 b = shV (nM I) (VM I) b ∧ I' 108 b = VM I 1 b ∧ I' 109 b = (if nI b = I 91 25 then 0 else sgnI (R (VM I 5 b) (lettV (nM I) (lv7 (I 104)) (VM I) (I 106 48) b)))) ∧ fr (fun c _ => c = 100 ∨ c = 101 ∨ c = 107 ∨ c = 108 ∨ c = 109) I I') (fun i I' hi hI hk => ?_) (fun I' hI => ?_) (nM I) 0 I (by omega) ⟨fun b hb => absurd hb (Nat.not_lt_zero b), fr_rf⟩
  · refine bX12_speedAll_2 hd (nI i) I' J ?_
    obtain ⟨hall, hfr⟩ := hI
    have rd : ∀ I3 : Nat → Nat → Int32, fr (fun c _ => c = 100 ∨ c = 101 ∨ c = 107 ∨ c = 108 ∨ c = 109) I I3 → okM I3 ∧ nM I3 = nM I ∧ VM I3 = VM I ∧ I3 91 22 = nI (nM I) := by
      intro I3 h3
      obtain ⟨w1, w2, w3⟩ := MM_fr (I := I) (I1 := I3) (h3 91 22 (by (try dsimp only); omega)) (fun k => h3 105 k (by (try dsimp only); omega)) (fun k => h3 106 k (by (try dsimp only); omega))
      exact ⟨w3 ⟨hc, hn⟩, w1, w2, by rw [h3 91 22 (by (try dsimp only); omega)]; exact hc⟩
    obtain ⟨ho, hn2, hV2, h82⟩ := rd I' hfr
    rw [h82, if_pos (by rw [jn_lt (by omega) (by omega)]; exact hi)]
    refine ⟨⟨by trivial, mj_isk_mk _ _⟩, ⟨ho, isB_nI (by omega) (by omega), by rw [hn2, hV2]; exact hcb⟩, ?_⟩
    simp (disch := omega) only [jn_in, jn_cl, gd_dec]
    rw [hn2, hV2, nar_b]
    have hA : fr (fun c _ => c = 100 ∨ c = 101 ∨ c = 107 ∨ c = 108 ∨ c = 109) I (mj_ui I' 107 i (b2i (shad (nM I) (VM I) i))) := fr_ui hfr (by (try dsimp only); omega)
    have hA7 : ∀ b, b < i + 1 → (mj_ui I' 107 i (b2i (shad (nM I) (VM I) i))) 107 b = shV (nM I) (VM I) b := fun b hb => by
      by_cases y : b = i
      · rw [y, ui_s]; rfl
      · rw [ui_k y]; exact (hall b (by omega)).1
    have hA8 : ∀ b, b < i → (mj_ui I' 107 i (b2i (shad (nM I) (VM I) i))) 108 b = VM I 1 b ∧ (mj_ui I' 107 i (b2i (shad (nM I) (VM I) i))) 109 b = (if nI b = I 91 25 then 0 else sgnI (R (VM I 5 b) (lettV (nM I) (lv7 (I 104)) (VM I) (I 106 48) b))) := fun b hb => by
      rw [ui_c (by decide), ui_c (by decide)]; exact (hall b hb).2
    generalize mj_ui I' 107 i (b2i (shad (nM I) (VM I) i)) = A1 at hA hA7 hA8 ⊢
    refine bX12_speedAll_21 hd (nI i) A1 J ?_
    obtain ⟨o1, n1, V1, c1⟩ := rd A1 hA
    simp (disch := omega) only [jn_in, jn_cl, gd_dec, n6_1]
    rw [← VM_1 (I := A1) (b := i) (by omega), V1]
    have hB : fr (fun c _ => c = 100 ∨ c = 101 ∨ c = 107 ∨ c = 108 ∨ c = 109) I (mj_ui A1 108 i (VM I 1 i)) := fr_ui hA (by (try dsimp only); omega)
    have hB7 : ∀ b, b < i + 1 → (mj_ui A1 108 i (VM I 1 i)) 107 b = shV (nM I) (VM I) b ∧ (mj_ui A1 108 i (VM I 1 i)) 108 b = VM I 1 b := fun b hb => by
      rw [ui_c (c' := 107) (by decide)]
      refine ⟨hA7 b hb, ?_⟩
      by_cases y : b = i
      · rw [y, ui_s]
      · rw [ui_k y]; exact (hA8 b (by omega)).1
    have hB9 : ∀ b, b < i → (mj_ui A1 108 i (VM I 1 i)) 109 b = (if nI b = I 91 25 then 0 else sgnI (R (VM I 5 b) (lettV (nM I) (lv7 (I 104)) (VM I) (I 106 48) b))) := fun b hb => by
      rw [ui_c (by decide)]; exact (hA8 b hb).2
    generalize mj_ui A1 108 i (VM I 1 i) = A2 at hB hB7 hB9 ⊢
    refine bX12_speedAll_33 hd (nI i) A2 J ?_
    obtain ⟨o2, n2, V2, c2⟩ := rd A2 hB
    rw [hB 91 25 (by (try dsimp only); omega)]
    have fin : ∀ (A3 : Nat → Nat → Int32) (v : Int32), fr (fun c _ => c = 100 ∨ c = 101 ∨ c = 107 ∨ c = 108 ∨ c = 109) I A3 → (∀ b, b < i + 1 → A3 107 b = shV (nM I) (VM I) b ∧ A3 108 b = VM I 1 b) → (∀ b, b < i → A3 109 b = (if nI b = I 91 25 then 0 else sgnI (R (VM I 5 b) (lettV (nM I) (lv7 (I 104)) (VM I) (I 106 48) b)))) → v = (if nI i = I 91 25 then 0 else sgnI (R (VM I 5 i) (lettV (nM I) (lv7 (I 104)) (VM I) (I 106 48) i))) → mj_G Ω l false mX12_speedAll d 0 0 Φ 0 0 56 ([some (.ref 91), some (.int (nI i))], [], mk (mj_ui A3 109 i v) J) := by
      intro A3 v h3 h37 h39 hv
      refine bX12_speedAll_56 hd (nI i) _ J ?_
      rw [jn_succ]
      refine hk _ ⟨fun b hb => ?_, fr_ui h3 (by (try dsimp only); omega)⟩
      rw [ui_c (c' := 107) (by decide), ui_c (c' := 108) (by decide)]
      refine ⟨(h37 b hb).1, (h37 b hb).2, ?_⟩
      by_cases y : b = i
      · rw [y, ui_s, hv]
      · rw [ui_k y]; exact h39 b (by omega)
    by_cases y : nI i = I 91 25
    · rw [if_pos y]
      simp (disch := omega) only [jn_in, jn_cl, gd_dec]
      exact fin A2 0 hB hB7 hB9 (by rw [if_pos y])
    · rw [if_neg y]
      have hFM : FM u A2 := by
        refine ⟨o2, ?_⟩
        rw [n2, V2, lv7_fr (fun k => hB 104 k (by (try dsimp only); omega)), hB 106 48 (by (try dsimp only); omega)]
        exact hF
      refine ⟨⟨by trivial, mj_isk_mk _ _⟩, i, rfl, u, m, R, ⟨hu, hFM, RuM_fr hR (hB 91 13 (by (try dsimp only); omega)) (fun c k q1 q2 => hB c k (by (try dsimp only); omega)), by omega⟩, fun A3 h3 => ?_⟩
      simp (disch := omega) only [jn_in, jn_cl, gd_dec]
      rw [n2, V2, lv7_fr (fun k => hB 104 k (by (try dsimp only); omega)), hB 106 48 (by (try dsimp only); omega)]
      refine fin A3 _ (fun a k w => ?_) (fun b hb => ?_) (fun b hb => ?_) (by rw [if_neg y])
      · try dsimp only at w
        rw [h3 a k (by (try dsimp only); omega), hB a k w]
      · rw [h3 107 b (by (try dsimp only); omega), h3 108 b (by (try dsimp only); omega)]
        exact hB7 b hb
      · rw [h3 109 b (by (try dsimp only); omega)]
        exact hB9 b hb
  · refine bX12_speedAll_2 hd (nI (nM I)) I' J ?_
    rw [hI.2 91 22 (by (try dsimp only); omega), hc, if_neg (by rw [jn_lt (by omega) (by omega)]; omega)]
    exact k64 I' hI.2 hI.1
theorem sdX12_speedAll : mj_Sd mX12_speedAll 7 tX12_speedAll := by
  intro Ω l d hd as M Φ h
  unfold tX12_speedAll at h
  split at h
  · rename_i z_this
    obtain ⟨⟨rfl, hM⟩, u, m, R, hp, h⟩ := h
    rw [mj_isk_of hM]
    exact mnX12_speedAll hd u m R _ _ hp (by
      rw [mj_isk_of hM] at h
      exact h)
  · exact h.elim
def csX12_pass : List (Nat × Nat × Nat × mj_PT) := [(352, 0, 1, mj_rcv 12 tX12_speedAll), (355, 0, 1, mj_rcv 12 tX12_goAll)]
theorem csX12_pass_ok : mj_Cs mX12_pass 8 csX12_pass := (mj_CsV (D' := 7) (ci := 12) (q := (RX12, TX12, 45)) sdX12_speedAll (Nat.le_of_ble_eq_true rfl) fX12_speedAll rfl rfl iX12_speedAll vX12_speedAll (by decide +kernel) l12_352 (mj_CsV (D' := 4) (ci := 12) (q := (RX12, TX12, 45)) sdX12_goAll (Nat.le_of_ble_eq_true rfl) fX12_goAll rfl rfl iX12_goAll vX12_goAll (by decide +kernel) l12_355 mj_Cs0))
def cutX12_pass : List (Nat × List Bool) := []
set_option maxRecDepth 100000 in
set_option maxHeartbeats 4000000 in
theorem inX12_pass {Ω : mj_Om} {l : Launch} {d : Nat} {Φ : Option Value → mj_M → Prop} (hd : 8 ≤ d) (I : Nat → Nat → Int32) (J : Nat → Nat → Int64)
    (h : (((91 = 91 ∧ mj_isk (mk I J)) ∧ (∃ u298 : Int, (∃ m299 : Nat, (∃ R300 : RF, ((u298 ≤ 1000 ∧ FM u298 I ∧ RuM I m299 R300 ∧ hOk (nM I) (I 91 25)) ∧ (∀ I301 : Nat → Nat → Int32, (VM I301 = spdV (nM I) (lv7 (I 104)) R300 (VM I) (I 106 48) (I 91 25) (I 91 26) ∧ (∀ b, b < nM I → I301 107 b = shV (nM I) (VM I) b ∧ I301 108 b = (VM I) 1 b) ∧ I301 91 26 = hsF (I 91 25) (I 91 26) ∧ (∀ b, b < nM I → spB (VM I301) b) ∧ fr (fun c k => c = 100 ∨ c = 101 ∨ (c = 106 ∧ k < 48) ∨ c = 107 ∨ c = 108 ∨ c = 109 ∨ (c = 91 ∧ k = 26)) I I301) → ((91 = 91 ∧ mj_isk (mk I301 J)) ∧ ((okM I301 ∧ lineOk (lv7 (I301 104)) ∧ (∀ b, b < nM I301 → (I301 107 b = 0 ∨ I301 107 b = 1)) ∧ (∀ b, b < nM I301 → spB (VM I301) b)) ∧ (∀ I303 : Nat → Nat → Int32, (VM I303 = moveV (nM I301) (lv7 (I301 104)) (I301 107) (I301 108) (VM I301) (I301 106 48) ∧ I303 106 48 = I301 106 48 + 1 ∧ fr (fun c k => c = 106 ∧ k < 49) I301 I303) → (Φ none (mk I303 J))))))))))))) :
    mj_Met Ω l false mX12_pass d 0 0 [.ref 91] (mk I J) Φ := mj_entry (by decide) rfl (fun h => (by cases h)) (Nat.le_of_ble_eq_true rfl) (mj_blk (μ := mX12_pass) (P := pX12_pass) (cut := cutX12_pass) (cs := csX12_pass) dX12_pass csX12_pass_ok hd 6 0 _ h)
def tX12_pass : mj_PT := fun as M Φ => match as with
  | [.ref this] => ((this = 91 ∧ mj_isk M) ∧ (∃ u : Int, (∃ m : Nat, (∃ R : RF, ((u ≤ 1000 ∧ FM u M.2.2.1 ∧ RuM M.2.2.1 m R ∧ hOk (nM M.2.2.1) (M.2.2.1 91 25)) ∧ (∀ I1 : Nat → Nat → Int32, (VM I1 = passG (nM M.2.2.1) (lv7 (M.2.2.1 104)) R (VM M.2.2.1) (M.2.2.1 106 48) (M.2.2.1 91 25) (M.2.2.1 91 26) ∧ I1 106 48 = (M.2.2.1 106 48) + 1 ∧ I1 91 26 = hsF (M.2.2.1 91 25) (M.2.2.1 91 26) ∧ fr (fun c k => c = 100 ∨ c = 101 ∨ (c = 106 ∧ k < 49) ∨ c = 107 ∨ c = 108 ∨ c = 109 ∨ (c = 91 ∧ k = 26)) M.2.2.1 I1) → Φ none (M.1, M.2.1, I1, M.2.2.2)))))))
  | _ => False
set_option maxHeartbeats 4000000 in
theorem mnX12_pass {Ω : mj_Om} {l : Launch} {d : Nat} {Φ : Option Value → mj_M → Prop} (hd : 8 ≤ d) (u : Int) (m : Nat) (R : RF) (I : Nat → Nat → Int32) (J : Nat → Nat → Int64) (hp : u ≤ 1000 ∧ FM u I ∧ RuM I m R ∧ hOk (nM I) (I 91 25)) (h : ∀ I1 : Nat → Nat → Int32, (VM I1 = passG (nM I) (lv7 (I 104)) R (VM I) (I 106 48) (I 91 25) (I 91 26) ∧ I1 106 48 = (I 106 48) + 1 ∧ I1 91 26 = hsF (I 91 25) (I 91 26) ∧ fr (fun c k => c = 100 ∨ c = 101 ∨ (c = 106 ∧ k < 49) ∨ c = 107 ∨ c = 108 ∨ c = 109 ∨ (c = 91 ∧ k = 26)) I I1) → Φ none (mk I1 J)) : mj_Met Ω l false mX12_pass d 0 0 [.ref 91] (mk I J) Φ := by
  refine inX12_pass hd I J ?_
  obtain ⟨hu, ⟨hc, hF⟩, hR, hh⟩ := hp
  refine ⟨⟨by trivial, mj_isk_mk _ _⟩, u, m, R, ⟨hu, ⟨hc, hF⟩, hR, hh⟩, fun A1 h1 => ?_⟩
  obtain ⟨h1a, h1b, h1c, h1d, h1f⟩ := h1
  obtain ⟨o1, n1, -⟩ := mM_fr h1f (by (try dsimp only); omega) hc
  have C1 : lv7 (A1 104) = lv7 (I 104) := lv7_fr (fun k => h1f 104 k (by (try dsimp only); omega))
  refine ⟨⟨by trivial, mj_isk_mk _ _⟩, ⟨o1, by rw [C1]; exact hF.1, fun b hb => by rw [n1] at hb; rw [(h1b b hb).1]; exact shV_or _ _ _, fun b hb => by rw [n1] at hb; exact h1d b hb⟩, fun A2 h2 => ?_⟩
  obtain ⟨h2a, h2b, h2f⟩ := h2
  have s1 : A1 106 48 = I 106 48 := h1f 106 48 (by (try dsimp only); omega)
  refine h A2 ⟨?_, by rw [h2b, s1], by rw [h2f 91 26 (by (try dsimp only); omega)]; exact h1c, fun a k w => ?_⟩
  · rw [h2a, n1, C1, s1, h1a]
    unfold passG
    exact moveV_c (fun b hb => (h1b b hb).1) (fun b hb => (h1b b hb).2) _ _
  · try dsimp only at w
    rw [h2f a k (by (try dsimp only); omega), h1f a k (by (try dsimp only); omega)]
theorem sdX12_pass : mj_Sd mX12_pass 8 tX12_pass := by
  intro Ω l d hd as M Φ h
  unfold tX12_pass at h
  split at h
  · rename_i z_this
    obtain ⟨⟨rfl, hM⟩, u, m, R, hp, h⟩ := h
    rw [mj_isk_of hM]
    exact mnX12_pass hd u m R _ _ hp (by
      rw [mj_isk_of hM] at h
      exact h)
  · exact h.elim
def csX12_toGun : List (Nat × Nat × Nat × mj_PT) := [(323, 0, 1, mj_rcv 12 tX12_leftSeconds), (367, 0, 1, mj_rcv 12 tX12_pass)]
theorem csX12_toGun_ok : mj_Cs mX12_toGun 9 csX12_toGun := (mj_CsV (D' := 1) (ci := 12) (q := (RX12, TX12, 45)) sdX12_leftSeconds (Nat.le_of_ble_eq_true rfl) fX12_leftSeconds rfl rfl iX12_leftSeconds vX12_leftSeconds (by decide +kernel) l12_323 (mj_CsV (D' := 8) (ci := 12) (q := (RX12, TX12, 45)) sdX12_pass (Nat.le_of_ble_eq_true rfl) fX12_pass rfl rfl iX12_pass vX12_pass (by decide +kernel) l12_367 mj_Cs0))
def cutX12_toGun : List (Nat × List Bool) := [(0, [true])]
set_option maxRecDepth 100000 in
set_option maxHeartbeats 4000000 in
theorem inX12_toGun {Ω : mj_Om} {l : Launch} {d : Nat} {Φ : Option Value → mj_M → Prop} (hd : 9 ≤ d) (I : Nat → Nat → Int32) (J : Nat → Nat → Int64)
    (h : ((mj_G Ω l false mX12_toGun d 0 0 Φ 0 0 0 ([some (.ref 91)], [], (mk I J))))) :
    mj_Met Ω l false mX12_toGun d 0 0 [.ref 91] (mk I J) Φ := mj_entry (by decide) rfl (fun h => (by cases h)) (Nat.le_of_ble_eq_true rfl) h
set_option maxRecDepth 100000 in
set_option maxHeartbeats 4000000 in
theorem bX12_toGun_0 {Ω : mj_Om} {l : Launch} {d : Nat} {Φ : Option Value → mj_M → Prop} (hd : 9 ≤ d) (I : Nat → Nat → Int32) (J : Nat → Nat → Int64)
    (h : ((if (0 : Int32) < ((I 104 5) - (I 106 48)) then ((91 = 91 ∧ mj_isk (mk I J)) ∧ (∃ u320 : Int, (∃ m321 : Nat, (∃ R322 : RF, ((u320 ≤ 1000 ∧ FM u320 I ∧ RuM I m321 R322 ∧ hOk (nM I) (I 91 25)) ∧ (∀ I323 : Nat → Nat → Int32, (VM I323 = passG (nM I) (lv7 (I 104)) R322 (VM I) (I 106 48) (I 91 25) (I 91 26) ∧ I323 106 48 = (I 106 48) + 1 ∧ I323 91 26 = hsF (I 91 25) (I 91 26) ∧ fr (fun c k => c = 100 ∨ c = 101 ∨ (c = 106 ∧ k < 49) ∨ c = 107 ∨ c = 108 ∨ c = 109 ∨ (c = 91 ∧ k = 26)) I I323) → (mj_G Ω l false mX12_toGun d 0 0 Φ 0 0 0 ([some (.ref 91)], [], (mk I323 J))))))))) else (Φ none (mk I J))))) :
    mj_G Ω l false mX12_toGun d 0 0 Φ 0 0 0 ([some (.ref 91)], [], mk I J) := mj_blk (μ := mX12_toGun) (P := pX12_toGun) (cut := cutX12_toGun) (cs := csX12_toGun) dX12_toGun csX12_toGun_ok hd 8 0 _ h
def tX12_toGun : mj_PT := fun as M Φ => match as with
  | [.ref this] => ((this = 91 ∧ mj_isk M) ∧ (∃ u : Int, (∃ m : Nat, (∃ R : RF, ((u ≤ 1000 ∧ FM u M.2.2.1 ∧ RuM M.2.2.1 m R ∧ hOk (nM M.2.2.1) (M.2.2.1 91 25)) ∧ (∀ I1 : Nat → Nat → Int32, (VM I1 = gunG (nM M.2.2.1) (lv7 (M.2.2.1 104)) R (M.2.2.1 91 25) ((lv7 (M.2.2.1 104)) 5 - (M.2.2.1 106 48)).toNatClampNeg (M.2.2.1 91 26) (VM M.2.2.1) (M.2.2.1 106 48) ∧ I1 106 48 = (lv7 (M.2.2.1 104)) 5 ∧ fr (fun c k => c = 100 ∨ c = 101 ∨ (c = 106 ∧ k < 49) ∨ c = 107 ∨ c = 108 ∨ c = 109 ∨ (c = 91 ∧ k = 26)) M.2.2.1 I1) → Φ none (M.1, M.2.1, I1, M.2.2.2)))))))
  | _ => False
set_option maxHeartbeats 4000000 in
theorem mnX12_toGun {Ω : mj_Om} {l : Launch} {d : Nat} {Φ : Option Value → mj_M → Prop} (hd : 9 ≤ d) (u : Int) (m : Nat) (R : RF) (I : Nat → Nat → Int32) (J : Nat → Nat → Int64) (hp : u ≤ 1000 ∧ FM u I ∧ RuM I m R ∧ hOk (nM I) (I 91 25)) (h : ∀ I1 : Nat → Nat → Int32, (VM I1 = gunG (nM I) (lv7 (I 104)) R (I 91 25) ((lv7 (I 104)) 5 - (I 106 48)).toNatClampNeg (I 91 26) (VM I) (I 106 48) ∧ I1 106 48 = (lv7 (I 104)) 5 ∧ fr (fun c k => c = 100 ∨ c = 101 ∨ (c = 106 ∧ k < 49) ∨ c = 107 ∨ c = 108 ∨ c = 109 ∨ (c = 91 ∧ k = 26)) I I1) → Φ none (mk I1 J)) : mj_Met Ω l false mX12_toGun d 0 0 [.ref 91] (mk I J) Φ := by
  refine inX12_toGun hd I J ?_
  obtain ⟨hu, ⟨hc, hF⟩, hR, hh⟩ := hp
  have l5 := hF.1.2.2.2.2.2.1
  have hs := hF.2.1
  have hn := hc.2
  have eL := i_sub (x := lv7 (I 104) 5) (y := I 106 48) (by omega)
  have hLc : (lv7 (I 104) 5 - I 106 48).toNatClampNeg = (lv7 (I 104) 5 - I 106 48).toInt.toNat := rfl
  have key : ∀ (k : Nat) (I' : Nat → Nat → Int32), k ≤ 100 → (I' 106 48).toInt = (lv7 (I 104) 5).toInt - k → okM I' → nM I' = nM I → FOk u (nM I) (lv7 (I 104)) (VM I') (I' 106 48) → RuM I' m R → fr (fun c k => c = 100 ∨ c = 101 ∨ (c = 106 ∧ k < 49) ∨ c = 107 ∨ c = 108 ∨ c = 109 ∨ (c = 91 ∧ k = 26)) I I' → (∀ I1, (VM I1 = gunG (nM I) (lv7 (I 104)) R (I 91 25) k (I' 91 26) (VM I') (I' 106 48) ∧ I1 106 48 = lv7 (I 104) 5 ∧ fr (fun c k => c = 100 ∨ c = 101 ∨ (c = 106 ∧ k < 49) ∨ c = 107 ∨ c = 108 ∨ c = 109 ∨ (c = 91 ∧ k = 26)) I I1) → Φ none (mk I1 J)) → mj_G Ω l false mX12_toGun d 0 0 Φ 0 0 0 ([some (.ref 91)], [], mk I' J) := by
    intro k
    induction k with
    | zero =>
      intro I' _ h9 ho hn2 hF2 hR2 hfr h
      refine bX12_toGun_0 hd I' J ?_
      have e5 : I' 104 5 = lv7 (I 104) 5 := by rw [hfr _ _ (by (try dsimp only); omega), lv7_at (by decide)]
      have e0 := i_sub (x := lv7 (I 104) 5) (y := I' 106 48) (by omega)
      rw [e5, if_neg (by rw [Int32.lt_iff_toInt_lt, i_0, e0]; omega)]
      exact h I' ⟨rfl, Int32.toInt_inj.mp (by omega), hfr⟩
    | succ k ih =>
      intro I' hk h9 ho hn2 hF2 hR2 hfr h
      refine bX12_toGun_0 hd I' J ?_
      have e5 : I' 104 5 = lv7 (I 104) 5 := by rw [hfr _ _ (by (try dsimp only); omega), lv7_at (by decide)]
      have e0 := i_sub (x := lv7 (I 104) 5) (y := I' 106 48) (by omega)
      have hC2 : lv7 (I' 104) = lv7 (I 104) := lv7_fr (fun k => hfr 104 k (by (try dsimp only); omega))
      have h25 : I' 91 25 = I 91 25 := hfr 91 25 (by (try dsimp only); omega)
      rw [e5, if_pos (by rw [Int32.lt_iff_toInt_lt, i_0, e0]; omega)]
      refine ⟨⟨by trivial, mj_isk_mk _ _⟩, u, m, R, ⟨hu, ⟨ho, by rw [hn2, hC2]; exact hF2⟩, hR2, by rw [hn2, h25]; exact hh⟩, fun A h1 => ?_⟩
      obtain ⟨h1a, h1b, h1c, h1f⟩ := h1
      rw [hn2, hC2, h25] at h1a
      rw [h25] at h1c
      have hlt : (I' 106 48).toInt < (lv7 (I 104) 5).toInt := by omega
      have h91 := i_add1 (x := I' 106 48) (by omega)
      have hF3 := FOk_passG (R := R) (k := I' 91 26) hn hh hF2 hlt
      rw [← h1a, ← h1b] at hF3
      obtain ⟨o2, n2, -⟩ := mM_fr h1f (by (try dsimp only); omega) ho
      refine ih A (by omega) (by rw [h1b, h91]; omega) o2 (by rw [n2, hn2]) hF3 (RuM_fr hR2 (h1f 91 13 (by (try dsimp only); omega)) (fun a k q1 q2 => h1f a k (by (try dsimp only); omega))) (fr_tr hfr h1f) (fun I1 h2 => h I1 ⟨by rw [h2.1, h1a, h1b, h1c]; rfl, h2.2⟩)
  exact key _ I (by omega) (by omega) hc rfl hF hR fr_rf h
theorem sdX12_toGun : mj_Sd mX12_toGun 9 tX12_toGun := by
  intro Ω l d hd as M Φ h
  unfold tX12_toGun at h
  split at h
  · rename_i z_this
    obtain ⟨⟨rfl, hM⟩, u, m, R, hp, h⟩ := h
    rw [mj_isk_of hM]
    exact mnX12_toGun hd u m R _ _ hp (by
      rw [mj_isk_of hM] at h
      exact h)
  · exact h.elim
