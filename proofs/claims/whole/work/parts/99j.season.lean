/-! ===== season on both sides (by program, wip/whole/p106.py) ===== -/
noncomputable def ssZ (w n : Nat) (V : Vw) (y : Int64) : Nat → Int64
  | 0 => y
  | j + 1 => (scN w n (V, ssZ w n V y j)).2
noncomputable def ssG (w n : Nat) (C : Nat → Int32) (R : RF) (V : Vw) (z : Int64) : Vw := gunV n C R (C 5 - 0).toNatClampNeg (scN w n (V, z)).1 0
noncomputable def ssP (w n : Nat) (C : Nat → Int32) (R : RF) (V : Vw) (y : Int64) (j b : Nat) : Int32 := nI (place n C (C 6) (ssG w n C R V (ssZ w n V y j)) b)
def sPn (P : Nat → Nat → Int32) (b : Nat) : Nat → Int32
  | 0 => 0
  | i + 1 => sPn P b i + P i b
def ssF (r : Nat) (c k : Nat) : Prop := (48 ≤ c ∧ c ≤ 56) ∨ c = 10 ∨ (76 ≤ c ∧ c ≤ 79) ∨ c = 90 ∨ (c = 86 ∧ k = 5) ∨ c = 111 ∨ (100 ≤ c ∧ c ≤ 101) ∨ (107 ≤ c ∧ c ≤ 109) ∨ (c = 91 ∧ (k = 25 ∨ k = 26 ∨ k = 42)) ∨ (c = 118 ∧ 8 * r ≤ k)
/-- races of a season on both -/
theorem Rel_season {I M : Nat → Nat → Int32} {r i : Nat} {P : Nat → Nat → Int32} (h : Rel I) (hr : r + i ≤ 40) (h5 : I 86 5 = nI r) (hn : 0 < nF I 39) (a1 : M 86 5 = nI (r + i)) (a2 : M 91 42 = nI (r + i)) (a3 : ∀ b, b < nF I 39 → M 90 b = I 90 b + sPn P b i) (a4 : ∀ j, j < i → ∀ b, b < nF I 39 → M 118 (8 * (r + j) + b) = P j b) (b25 : M 91 25 = -1) (b26 : M 91 26 = 0) (e : fr (ssF r) I M) : Rel M := by
  obtain ⟨hT, hK, hW, hA, hI, hP, hR, hg, h25, h26⟩ := h
  have h8 := hW.1.2
  have n39 : nF M 39 = nF I 39 := by unfold nF; rw [e 39 8 (by unfold ssF; omega)]
  refine ⟨relT_k hT (fun c k q => e c k (by unfold inT at q; unfold ssF; omega)), relK_k hK (fun c k q => e c k (by unfold inK at q; unfold ssF; omega)), relW_k hW (fun c k q => e c k (by unfold inW at q; unfold ssF; omega)), relA_k hA (fun c k q => e c k (by unfold inA at q; unfold ssF; omega)), relI_k hI (fun c k q => e c k (by unfold inI at q; unfold ssF; omega)), relP_k hP (fun c k q => e c k (by unfold inP at q; unfold ssF; omega)), ?_, ?_, b25, b26⟩
  · obtain ⟨r', w1, w2, w3, w5, w4⟩ := hR
    have er : r' = r := by
      have := w2.symm.trans h5
      rwa [jn_eq (by omega) (by omega)] at this
    subst er
    refine ⟨r' + i, hr, a1, a2, fun _ => by rw [n39]; exact hn, fun b hb => ?_⟩
    rw [n39] at hb
    have key : ∀ j, j ≤ i → psum M b (r' + j) = psum I b r' + sPn P b j := by
      intro j
      induction j with
      | zero =>
        intro _
        rw [show sPn P b 0 = 0 from rfl, Int32.add_zero, Nat.add_zero r']
        exact psum_lt r' (fun j hj => e 118 (8 * j + b) (by unfold ssF; omega))
      | succ j ij =>
        intro hj
        rw [show psum M b (r' + (j + 1)) = psum M b (r' + j) + M 118 (8 * (r' + j) + b) from rfl, ij (by omega), a4 j (by omega) b hb, show sPn P b (j + 1) = sPn P b j + P j b from rfl, Int32.add_assoc]
    rw [a3 b hb, w4 b hb, key i (Nat.le_refl i)]
  · rw [e 0 17 (by unfold ssF; omega), e 91 24 (by unfold ssF; omega)]; exact hg
/-- begun again, the reference's view is what was told -/
theorem vm_bg {n : Nat} {B D : Nat → Nat → Int32} (hn : nM D = n) (hB : nM B = n) (h : ∀ b j, b < nM B → j < 6 → D 106 (6 * b + j) = bgV B b j) (e : ∀ k, D 105 k = B 105 k) : VM D = vB n B := by
  funext k b
  unfold VM vM vB
  rw [hn]
  by_cases q : b < n
  · rw [if_pos q, if_pos q]
    have hh := fun j hj => h b j (by omega) hj
    match k with
    | 0 => exact hh 0 (by decide)
    | 1 => exact hh 1 (by decide)
    | 2 => exact hh 2 (by decide)
    | 3 => exact e _
    | 4 => exact e _
    | 5 => exact hh 3 (by decide)
    | 6 => exact hh 4 (by decide)
    | 7 => exact hh 5 (by decide)
    | k + 8 => rw [if_neg (by omega)]; rfl
  · rw [if_neg q, if_neg q]
def csX11_season : List (Nat × Nat × Nat × mj_PT) := [(134, 0, 2, mj_rcv 3 tX3_copyFrom), (204, 0, 1, mj_rcv 11 tX11_hasWater), (235, 0, 2, mj_rcv 2 tX2_begin), (251, 0, 3, mj_rcv 4 tX4_passToGun), (324, 0, 3, mj_rcv 5 tX5_addRace), (331, 0, 3, mj_rcv 3 tX3_scatter)]
theorem csX11_season_ok : mj_Cs mX11_season 6 csX11_season := (mj_CsV (D' := 1) (ci := 3) (q := (RX3, TX3, 10)) sdX3_copyFrom (Nat.le_of_ble_eq_true rfl) fX3_copyFrom rfl rfl iX3_copyFrom vX3_copyFrom (by decide +kernel) l11_134 (mj_CsV (D' := 1) (ci := 11) (q := (RX11, TX11, 18)) sdX11_hasWater (Nat.le_of_ble_eq_true rfl) fX11_hasWater rfl rfl iX11_hasWater vX11_hasWater (by decide +kernel) l11_204 (mj_CsV (D' := 1) (ci := 2) (q := (RX2, TX2, 1)) sdX2_begin (Nat.le_of_ble_eq_true rfl) fX2_begin rfl rfl iX2_begin vX2_begin (by decide +kernel) l11_235 (mj_CsV (D' := 5) (ci := 4) (q := (RX4, TX4, 4)) sdX4_passToGun (Nat.le_of_ble_eq_true rfl) fX4_passToGun rfl rfl iX4_passToGun vX4_passToGun (by decide +kernel) l11_251 (mj_CsV (D' := 5) (ci := 5) (q := (RX5, TX5, 6)) sdX5_addRace (Nat.le_of_ble_eq_true rfl) fX5_addRace rfl rfl iX5_addRace vX5_addRace (by decide +kernel) l11_324 (mj_CsV (D' := 2) (ci := 3) (q := (RX3, TX3, 10)) sdX3_scatter (Nat.le_of_ble_eq_true rfl) fX3_scatter rfl rfl iX3_scatter vX3_scatter (by decide +kernel) l11_331 mj_Cs0))))))
def cutX11_season : List (Nat × List Bool) := [(45, [true, true, true, false, true])]
def pX11_season_0 : List (Nat × Instr × Nat) := [(0, .aload_n 0, 1), (1, .invokevirtual 204, 3), (4, .ifCond .eq 28, 3), (7, .iload_n 1, 1), (8, .iconst 1, 1), (9, .if_icmp .lt 23, 3), (12, .iload_n 1, 1), (13, .bipush 20, 2), (15, .if_icmp .gt 17, 3), (18, .aload_n 0, 1), (19, .getfield 101, 3), (22, .getfield 321, 3), (25, .iload_n 1, 1), (26, .iadd, 1), (27, .bipush 40, 2), (29, .if_icmp .le 5, 3), (32, .iconst (-1), 1), (33, .ireturn, 1), (34, .aload_n 0, 1), (35, .getfield 80, 3), (38, .lload_n 2, 1), (39, .invokevirtual 235, 3), (42, .iconst 0, 1), (43, .istore 4, 2), (45, .iload 4, 2)]
set_option maxRecDepth 100000 in
theorem dX11_season_0 : mj_pd cX11_season pX11_season_0 := mj_pdB (by decide +kernel)
set_option maxRecDepth 100000 in
set_option maxHeartbeats 4000000 in
theorem inX11_season {Ω : mj_Om} {l : Launch} {d : Nat} {Φ : Option Value → mj_M → Prop} (hd : 6 ≤ d) (n : Int32) (y : Int64) (I : Nat → Nat → Int32) (J : Nat → Nat → Int64)
    (h : ((if (0 : Int32) < (I 39 8) then (if n < (1 : Int32) then (Φ (some (.int (-1 : Int32))) (mk I J)) else (if (20 : Int32) < n then (Φ (some (.int (-1 : Int32))) (mk I J)) else (if (40 : Int32) < ((I 86 5) + n) then (Φ (some (.int (-1 : Int32))) (mk I J)) else (mj_G Ω l false mX11_season d 0 0 Φ 0 0 45 ([some (.ref 0), some (.int n), some (.long y), none, some (.int (0 : Int32))], [], (mk I (mj_ul J 79 0 y))))))) else (Φ (some (.int (-1 : Int32))) (mk I J))))) :
    mj_Met Ω l false mX11_season d 0 0 [.ref 0, .int n, .long y] (mk I J) Φ := mj_entry (by decide) rfl (fun h => (by cases h)) (Nat.le_of_ble_eq_true rfl) (mj_blk (μ := mX11_season) (P := pX11_season_0) (cut := cutX11_season) (cs := csX11_season) dX11_season_0 csX11_season_ok hd 26 0 _ h)
def pX11_season_45 : List (Nat × Instr × Nat) := [(45, .iload 4, 2), (47, .iload_n 1, 1), (48, .if_icmp .ge 71, 3), (51, .aload_n 0, 1), (52, .getfield 59, 3), (55, .aload_n 0, 1), (56, .getfield 52, 3), (59, .invokevirtual 134, 3), (62, .aload_n 0, 1), (63, .getfield 59, 3), (66, .aload_n 0, 1), (67, .getfield 80, 3), (70, .aload_n 0, 1), (71, .getfield 42, 3), (74, .getfield 208, 3), (77, .iconst 0, 1), (78, .iaload, 1), (79, .invokevirtual 331, 3), (82, .aload_n 0, 1), (83, .getfield 73, 3), (86, .aload_n 0, 1), (87, .getfield 42, 3), (90, .aload_n 0, 1), (91, .getfield 59, 3), (94, .invokevirtual 251, 3), (97, .aload_n 0, 1), (98, .getfield 101, 3), (101, .aload_n 0, 1), (102, .getfield 42, 3), (105, .aload_n 0, 1), (106, .getfield 59, 3), (109, .invokevirtual 324, 3), (112, .pop, 1), (113, .iinc 4 1, 3), (116, .goto (-71), 3), (119, .aload_n 0, 1), (120, .getfield 101, 3), (123, .getfield 321, 3), (126, .ireturn, 1)]
set_option maxRecDepth 100000 in
theorem dX11_season_45 : mj_pd cX11_season pX11_season_45 := mj_pdB (by decide +kernel)
set_option maxRecDepth 100000 in
set_option maxHeartbeats 4000000 in
theorem bX11_season_45 {Ω : mj_Om} {l : Launch} {d : Nat} {Φ : Option Value → mj_M → Prop} (hd : 6 ≤ d) (x1 : Int32) (x4 : Int32) (y : Int64) (I : Nat → Nat → Int32) (J : Nat → Nat → Int64)
    (h : ((if x4 < x1 then ((isFG 48 30 ∧ mj_isk (mk I J)) ∧ ((okF I 30) ∧ (∀ I3575 : Nat → Nat → Int32, (okF I3575 48 ∧ nF I3575 48 = nF I 30 ∧ VF I3575 48 = VF I 30 ∧ I3575 48 9 = I 30 9 ∧ fr (fun c _ => 48 ≤ c ∧ c ≤ 48 + 8) I I3575) → ((48 = 48 ∧ 79 = 79 ∧ mj_isk (mk I3575 J)) ∧ (∃ w3577 : Nat, (I3575 27 0) = nI w3577 ∧ ((okF I3575 48 ∧ 2 ≤ w3577 ∧ w3577 ≤ 20 ∧ (∀ b, b < nF I3575 48 → I3575 55 b = 0 ∧ I3575 56 b = 0)) ∧ (∀ I3578 : Nat → Nat → Int32, ∀ J3579 : Nat → Nat → Int64, (VF I3578 48 = (scN w3577 (nF I3575 48) (VF I3575 48, J 79 0)).1 ∧ J3579 = mj_ul J 79 0 (scN w3577 (nF I3575 48) (VF I3575 48, J 79 0)).2 ∧ okF I3578 48 ∧ nF I3578 48 = nF I3575 48 ∧ fr (fun c k => c = 49 ∨ c = 50 ∨ c = 55 ∨ c = 56 ∨ (c = 48 ∧ k = 8)) I3575 I3578) → ((75 = 75 ∧ isCF 26 48 ∧ mj_isk (mk I3578 J3579)) ∧ (∃ u3580 : Int, (∃ m3581 : Nat, (∃ R3582 : RF, ((u3580 ≤ 1000 ∧ FC u3580 I3578 26 48 ∧ RuC I3578 m3581 R3582) ∧ (∀ I3583 : Nat → Nat → Int32, (VF I3583 48 = gunV (nF I3578 48) (lv7 (I3578 (26 + 1))) R3582 ((lv7 (I3578 (26 + 1))) 5 - (I3578 48 9)).toNatClampNeg (VF I3578 48) (I3578 48 9) ∧ I3583 48 9 = (lv7 (I3578 (26 + 1))) 5 ∧ fr (fun c k => (48 + 1 ≤ c ∧ c ≤ 48 + 8) ∨ (c = 48 ∧ k = 9) ∨ c = 10 ∨ (76 ≤ c ∧ c ≤ 78)) I3578 I3583) → ((86 = 86 ∧ isCF 26 48 ∧ mj_isk (mk I3583 J3579)) ∧ ((okF I3583 48 ∧ lineOk (lv7 (I3583 (26 + 1)))) ∧ (∀ I3585 : Nat → Nat → Int32, (I3585 86 5 = I3583 86 5 + 1 ∧ (∀ b, b < nF I3583 48 → I3585 90 b = I3583 90 b + (nI (place (nF I3583 48) (lv7 (I3583 (26 + 1))) (I3583 (26 + 1) 6) (VF I3583 48) b))) ∧ fr (fun c k => c = 90 ∨ (c = 86 ∧ k = 5)) I3583 I3585) → (mj_G Ω l false mX11_season d 0 0 Φ 0 0 45 ([some (.ref 0), some (.int x1), some (.long y), none, some (.int (x4 + (1 : Int32)))], [], (mk I3585 J3579))))))))))))))))))) else (Φ (some (.int (I 86 5))) (mk I J))))) :
    mj_G Ω l false mX11_season d 0 0 Φ 0 0 45 ([some (.ref 0), some (.int x1), some (.long y), none, some (.int x4)], [], mk I J) := mj_blk (μ := mX11_season) (P := pX11_season_45) (cut := cutX11_season) (cs := csX11_season) dX11_season_45 csX11_season_ok hd 40 45 _ h
def csX12_season : List (Nat × Nat × Nat × mj_PT) := [(214, 1, 3, tX12_in), (258, 0, 1, mj_rcv 12 tX12_begin), (382, 0, 1, mj_rcv 12 tX12_putAside), (385, 0, 1, mj_rcv 12 tX12_toGun), (388, 0, 1, mj_rcv 12 tX12_takeBack), (431, 0, 1, mj_rcv 12 tX12_write), (440, 0, 2, mj_rcv 12 tX12_drawCell)]
theorem csX12_season_ok : mj_Cs mX12_season 10 csX12_season := (mj_CsS (D' := 1) sdX12_in (Nat.le_of_ble_eq_true rfl) fX12_in sX12_in (by decide +kernel) l12_214 (mj_CsV (D' := 2) (ci := 12) (q := (RX12, TX12, 45)) sdX12_begin (Nat.le_of_ble_eq_true rfl) fX12_begin rfl rfl iX12_begin vX12_begin (by decide +kernel) l12_258 (mj_CsV (D' := 1) (ci := 12) (q := (RX12, TX12, 45)) sdX12_putAside (Nat.le_of_ble_eq_true rfl) fX12_putAside rfl rfl iX12_putAside vX12_putAside (by decide +kernel) l12_382 (mj_CsV (D' := 9) (ci := 12) (q := (RX12, TX12, 45)) sdX12_toGun (Nat.le_of_ble_eq_true rfl) fX12_toGun rfl rfl iX12_toGun vX12_toGun (by decide +kernel) l12_385 (mj_CsV (D' := 1) (ci := 12) (q := (RX12, TX12, 45)) sdX12_takeBack (Nat.le_of_ble_eq_true rfl) fX12_takeBack rfl rfl iX12_takeBack vX12_takeBack (by decide +kernel) l12_388 (mj_CsV (D' := 6) (ci := 12) (q := (RX12, TX12, 45)) sdX12_write (Nat.le_of_ble_eq_true rfl) fX12_write rfl rfl iX12_write vX12_write (by decide +kernel) l12_431 (mj_CsV (D' := 3) (ci := 12) (q := (RX12, TX12, 45)) sdX12_drawCell (Nat.le_of_ble_eq_true rfl) fX12_drawCell rfl rfl iX12_drawCell vX12_drawCell (by decide +kernel) l12_440 mj_Cs0)))))))
def cutX12_season : List (Nat × List Bool) := [(42, [true, true, true, false, true, false]), (55, [true, true, true, false, true, true])]
set_option maxRecDepth 100000 in
set_option maxHeartbeats 4000000 in
theorem inX12_season {Ω : mj_Om} {l : Launch} {d : Nat} {Φ : Option Value → mj_M → Prop} (hd : 10 ≤ d) (n : Int32) (y : Int64) (I : Nat → Nat → Int32) (J : Nat → Nat → Int64)
    (h : ((if (I 91 22) = (0 : Int32) then (Φ (some (.int (-1 : Int32))) (mk I J)) else (if n < (1 : Int32) then (Φ (some (.int (-1 : Int32))) (mk I J)) else (if (20 : Int32) < n then (Φ (some (.int (-1 : Int32))) (mk I J)) else (if (40 : Int32) < ((I 91 42) + n) then (Φ (some (.int (-1 : Int32))) (mk I J)) else ((91 = 91 ∧ mj_isk (mk I J)) ∧ (∀ I3606 : Nat → Nat → Int32, (kpP I 106 111 0 0 49 I3606) → (mj_G Ω l false mX12_season d 0 0 Φ 0 0 42 ([some (.ref 91), some (.int n), some (.long y), none, some (.int (0 : Int32)), none], [], (mk I3606 (mj_ul J 91 32 y)))))))))))) :
    mj_Met Ω l false mX12_season d 0 0 [.ref 91, .int n, .long y] (mk I J) Φ := mj_entry (by decide) rfl (fun h => (by cases h)) (Nat.le_of_ble_eq_true rfl) (mj_blk (μ := mX12_season) (P := pX12_season) (cut := cutX12_season) (cs := csX12_season) dX12_season csX12_season_ok hd 51 0 _ h)
set_option maxRecDepth 100000 in
set_option maxHeartbeats 4000000 in
theorem bX12_season_42 {Ω : mj_Om} {l : Launch} {d : Nat} {Φ : Option Value → mj_M → Prop} (hd : 10 ≤ d) (x1 : Int32) (x4 : Int32) (y : Int64) (I : Nat → Nat → Int32) (J : Nat → Nat → Int64)
    (h : ((if x4 < x1 then ((91 = 91 ∧ mj_isk (mk I J)) ∧ ((okM I) ∧ (∀ I3608 : Nat → Nat → Int32, ((∀ b j, b < nM I → j < 6 → I3608 106 (6 * b + j) = bgV I b j) ∧ I3608 106 48 = 0 ∧ fr (fun c k => c = 106 ∧ k < 49) I I3608) → (mj_G Ω l false mX12_season d 0 0 Φ 0 0 55 ([some (.ref 91), some (.int x1), some (.long y), none, some (.int x4), some (.int (0 : Int32))], [], (mk I3608 J)))))) else ((91 = 91 ∧ mj_isk (mk I J)) ∧ (∀ I3610 : Nat → Nat → Int32, ((∀ k, k < 49 → I3610 106 k = I 111 k) ∧ I3610 91 25 = -1 ∧ I3610 91 26 = 0 ∧ fr (fun c k => (c = 106 ∧ k < 49) ∨ (c = 91 ∧ (k = 25 ∨ k = 26))) I I3610) → (Φ (some (.int (I3610 91 42))) (mk I3610 J))))))) :
    mj_G Ω l false mX12_season d 0 0 Φ 0 0 42 ([some (.ref 91), some (.int x1), some (.long y), none, some (.int x4), none], [], mk I J) := mj_blk (μ := mX12_season) (P := pX12_season) (cut := cutX12_season) (cs := csX12_season) dX12_season csX12_season_ok hd 51 42 _ h
set_option maxRecDepth 100000 in
set_option maxHeartbeats 4000000 in
theorem bX12_season_55 {Ω : mj_Om} {l : Launch} {d : Nat} {Φ : Option Value → mj_M → Prop} (hd : 10 ≤ d) (x1 : Int32) (x4 : Int32) (x5 : Int32) (y : Int64) (I : Nat → Nat → Int32) (J : Nat → Nat → Int64)
    (h : ((if x5 < (I 91 22) then ((91 = 91 ∧ mj_isk (mk I J)) ∧ (∃ b3612 : Nat, x5 = nI b3612 ∧ (∃ w3613 : Nat, ((okM I ∧ b3612 < nM I ∧ I 104 0 = nI w3613 ∧ 2 ≤ w3613 ∧ w3613 ≤ 20 ∧ dst w3613 b3612 (VM I)) ∧ (∀ I3614 : Nat → Nat → Int32, ∀ J3615 : Nat → Nat → Int64, (VM I3614 = (scS w3613 b3612 (VM I, J 91 32)).1 ∧ J3615 = mj_ul J 91 32 (nxJ (nxJ (J 91 32))) ∧ fr (fun c k => c = 106 ∧ k < 48) I I3614) → (mj_G Ω l false mX12_season d 0 0 Φ 0 0 55 ([some (.ref 91), some (.int x1), some (.long y), none, some (.int x4), some (.int (x5 + (1 : Int32)))], [], (mk I3614 J3615)))))))) else ((91 = 91 ∧ mj_isk (mk I J)) ∧ (∃ u3616 : Int, (∃ m3617 : Nat, (∃ R3618 : RF, ((u3616 ≤ 1000 ∧ FM u3616 I ∧ RuM I m3617 R3618 ∧ hOk (nM I) (I 91 25)) ∧ (∀ I3619 : Nat → Nat → Int32, (VM I3619 = gunG (nM I) (lv7 (I 104)) R3618 (I 91 25) ((lv7 (I 104)) 5 - (I 106 48)).toNatClampNeg (I 91 26) (VM I) (I 106 48) ∧ I3619 106 48 = (lv7 (I 104)) 5 ∧ fr (fun c k => c = 100 ∨ c = 101 ∨ (c = 106 ∧ k < 49) ∨ c = 107 ∨ c = 108 ∨ c = 109 ∨ (c = 91 ∧ k = 26)) I I3619) → ((91 = 91 ∧ mj_isk (mk I3619 J)) ∧ (∃ u3621 : Int, (∃ r3622 : Nat, ((r3622 < 40 ∧ I3619 91 42 = nI r3622 ∧ u3621 ≤ 1000 ∧ FM u3621 I3619) ∧ (∀ I3623 : Nat → Nat → Int32, (I3623 91 42 = nI (r3622 + 1) ∧ (∀ b, b < nM I3619 → I3623 118 (8 * r3622 + b) = nI (place (nM I3619) (lv7 (I3619 104)) (I3619 104 6) (VM I3619) b)) ∧ fr (fun c k => (c = 118 ∧ 8 * r3622 ≤ k) ∨ (c = 91 ∧ k = 42)) I3619 I3623) → (mj_G Ω l false mX12_season d 0 0 Φ 0 0 42 ([some (.ref 91), some (.int x1), some (.long y), none, some (.int (x4 + (1 : Int32))), none], [], (mk I3623 J))))))))))))))))) :
    mj_G Ω l false mX12_season d 0 0 Φ 0 0 55 ([some (.ref 91), some (.int x1), some (.long y), none, some (.int x4), some (.int x5)], [], mk I J) := mj_blk (μ := mX12_season) (P := pX12_season) (cut := cutX12_season) (cs := csX12_season) dX12_season csX12_season_ok hd 51 55 _ h
set_option maxHeartbeats 8000000 in
theorem two_season {Ω : mj_Om} {l : Launch} {I : Nat → Nat → Int32} {J : Nat → Nat → Int64} (x : Int32) (y : Int64) (h : Rel I) : Two Ω l mX11_season mX12_season [.int x, .long y] I J := by
  obtain ⟨w1, w2, w3, w4, w5⟩ := id h.2.2.1
  have hn8 := w1.2
  obtain ⟨m, K, k1, k2⟩ := id h.2.1
  have hq := Rel_c3 h k1 k2
  obtain ⟨r, r1, r2, r3, r4, -⟩ := id h.2.2.2.2.2.2.1
  refine inX11_season (Nat.le_of_ble_eq_true rfl) x y I J ?_
  rw [w1.1, r2]
  have no : ∀ J1 : Nat → Nat → Int64, ¬ (0 < nF I 39 ∧ ¬ x < 1 ∧ ¬ 20 < x ∧ ¬ 40 < nI r + x) → TwoE Ω l mX12_season [.int x, .long y] (some (.int (-1))) (mk I J1) := fun J1 q => by
    refine ⟨_, I, J1, rfl, rfl, inX12_season (Nat.le_of_ble_eq_true rfl) x y I J1 ?_⟩
    rw [w2.1, w3, r3]
    by_cases q0 : 0 < nF I 39
    case neg => rw [if_pos (by rw [zero_n (by omega)]; omega)]; exact ⟨I, J1, rfl, rfl, h⟩
    rw [if_neg (by rw [zero_n (by omega)]; omega)]
    by_cases q1 : x < 1
    · rw [if_pos q1]; exact ⟨I, J1, rfl, rfl, h⟩
    rw [if_neg q1]
    by_cases q2 : 20 < x
    · rw [if_pos q2]; exact ⟨I, J1, rfl, rfl, h⟩
    rw [if_neg q2]
    by_cases q3 : 40 < nI r + x
    · rw [if_pos q3]; exact ⟨I, J1, rfl, rfl, h⟩
    exact absurd ⟨q0, q1, q2, q3⟩ q
  by_cases q0 : 0 < nF I 39
  case neg => rw [if_neg (show ¬ (0 : Int32) < nI _ from nnl (a := 0) (by omega) (by omega))]; exact no J (fun w => q0 w.1)
  rw [if_pos (show (0 : Int32) < nI _ from nlt (a := 0) q0 (by omega))]
  by_cases q1 : x < 1
  · rw [if_pos q1]; exact no J (fun w => w.2.1 q1)
  rw [if_neg q1]
  by_cases q2 : 20 < x
  · rw [if_pos q2]; exact no J (fun w => w.2.2.1 q2)
  rw [if_neg q2]
  by_cases q3 : 40 < nI r + x
  · rw [if_pos q3]; exact no J (fun w => w.2.2.2 q3)
  rw [if_neg q3]
  obtain ⟨k, rfl, hk1, hk2⟩ : ∃ k : Nat, x = nI k ∧ 1 ≤ k ∧ k ≤ 20 := by
    have q1' := q1
    have q2' := q2
    rw [Int32.lt_iff_toInt_lt, i_1] at q1'
    rw [Int32.lt_iff_toInt_lt, show (20 : Int32).toInt = 20 from rfl] at q2'
    have e := jn_of (x := x) (by rw [Int32.le_iff_toInt_le, i_0]; omega)
    have e2 : x.toInt = (x.toNatClampNeg : Int) := by
      have := congrArg Int32.toInt e
      rw [jn_toInt (cl_lt x)] at this
      exact this
    exact ⟨x.toNatClampNeg, e, by omega, by omega⟩
  have hrk : r + k ≤ 40 := by
    have q3' := q3
    rw [jn_add, Int32.lt_iff_toInt_lt, show (40 : Int32).toInt = 40 from rfl, jn_toInt (by omega)] at q3'
    omega
  obtain ⟨x1, x2, x3, x4, x5, x6, x7, x8⟩ := w5 q0
  generalize hnn : nF I 39 = n at *
  generalize hCC : lv7 (I 27) = C at *
  generalize hRR : rfK m K = R at *
  have lv : ∀ j, j < 7 → C j = I 27 j := fun j hj => by rw [← hCC]; exact lv7_at hj
  obtain ⟨w, ew, hw2, hw20⟩ : ∃ w : Nat, C 0 = nI w ∧ 2 ≤ w ∧ w ≤ 20 := by
    have l0 := x8.1.1
    have e := jn_of (x := C 0) (by rw [Int32.le_iff_toInt_le, i_0]; omega)
    have e2 : (C 0).toInt = ((C 0).toNatClampNeg : Int) := by
      have := congrArg Int32.toInt e
      rw [jn_toInt (cl_lt (C 0))] at this
      exact this
    exact ⟨(C 0).toNatClampNeg, e, by omega, by omega⟩
  generalize hVV : VF I 30 = V at *
  have V67 : ∀ b, b < n → V 6 b = 0 ∧ V 7 b = 0 := fun b hb => by rw [x7]; unfold vB; rw [if_pos hb, if_pos hb]; exact ⟨rfl, rfl⟩
  have c5 := x8.1.2.2.2.2.2.1
  have len : ((C 5 - 0).toNatClampNeg : Int) = (C 5).toInt := by
    rw [Int32.sub_zero]
    have e := jn_of (x := C 5) (by rw [Int32.le_iff_toInt_le, i_0]; omega)
    have := congrArg Int32.toInt e
    rw [jn_toInt (cl_lt (C 5))] at this
    exact this.symm
  have fsc := fun z => FOk_sc (z := z) x8 hn8 ew (by omega) (by omega)
  have fgn := fun z => FOk_gunE (R := R) hn8 (C 5 - 0).toNatClampNeg (scN w n (V, z)).1 0 (by rw [i_0]; omega) (fsc z)
  have tS : ∀ j, ssZ w n V y (j + 1) = (scN w n (V, ssZ w n V y j)).2 := fun _ => rfl
  refine lp_inv (σ := (Nat → Nat → Int32) × (Nat → Nat → Int64)) (n := k) (G := fun i p => mj_G Ω l false mX11_season 60 0 0 (TwoE Ω l mX12_season [.int (nI k), .long y]) 0 0 45 ([some (.ref 0), some (.int (nI k)), some (.long y), none, some (.int (nI i))], [], mk p.1 p.2)) (fun i p => p.1 86 5 = nI (r + i) ∧ (∀ b, b < n → p.1 90 b = I 90 b + sPn (ssP w n C R V y) b i) ∧ fr (fun c k => (48 ≤ c ∧ c ≤ 56) ∨ c = 10 ∨ (76 ≤ c ∧ c ≤ 78) ∨ c = 90 ∨ (c = 86 ∧ k = 5)) I p.1 ∧ p.2 79 0 = ssZ w n V y i) (fun i p hi hI hk => ?_) (fun p hI => ?_) k 0 (I, mj_ul J 79 0 y) (by omega) ⟨r2, fun b _ => (Int32.add_zero _).symm, fr_rf, by show mj_ul J 79 0 y 79 0 = y; exact ul_s⟩
  · obtain ⟨A, Ja⟩ := p
    obtain ⟨p1, p2, p3, p4⟩ := hI
    dsimp only at p1 p2 p3 p4 ⊢
    obtain ⟨n30, V30, o30, s30⟩ := FF_fr (I := I) (I1 := A) (f := 30) (fun c k h1 h2 => p3 c k (by (try dsimp only); omega))
    refine bX11_season_45 (Nat.le_of_ble_eq_true rfl) (nI k) (nI i) y A Ja ?_
    rw [if_pos (nlt hi (by omega)), jn_succ]
    refine ⟨⟨by unfold isFG; omega, mj_isk_mk _ _⟩, o30 x4, fun A1 h1 => ?_⟩
    obtain ⟨a1, a2, a3, a4, a5⟩ := h1
    rw [n30, x5] at a2
    rw [V30, hVV] at a3
    rw [s30, x6] at a4
    have g1 : ∀ c k, c < 48 → ¬ c = 10 → A1 c k = I c k := fun c k u v => by rw [a5 c k (by (try dsimp only); omega)]; exact p3 c k (by (try dsimp only); omega)
    refine ⟨⟨by trivial, by trivial, mj_isk_mk _ _⟩, w, by rw [g1 27 0 (by decide) (by decide), ← lv 0 (by decide)]; exact ew, ⟨a1, hw2, hw20, fun b hb => ?_⟩, fun A2 J2 h2 => ?_⟩
    · have v6 := VF_6 (I := A1) (f := 48) (b := b) hb
      have v7 := VF_7 (I := A1) (f := 48) (b := b) hb
      rw [a2] at hb
      rw [a3] at v6 v7
      exact ⟨v6.symm.trans (V67 b hb).1, v7.symm.trans (V67 b hb).2⟩
    obtain ⟨b1, b2, b3, b4, b5⟩ := h2
    rw [a2, a3, p4] at b1 b2
    rw [a2] at b4
    have g2 : ∀ c k, c < 48 → ¬ c = 10 → A2 c k = I c k := fun c k u v => by rw [b5 c k (by (try dsimp only); omega)]; exact g1 c k u v
    have s2 : A2 48 9 = 0 := by rw [b5 48 9 (by (try dsimp only); omega)]; exact a4
    have C2 : lv7 (A2 27) = C := by rw [← hCC]; exact lv7_fr (fun k => g2 27 k (by decide) (by decide))
    refine ⟨⟨by trivial, by unfold isCF; omega, mj_isk_mk _ _⟩, 30, m, R, ⟨by decide, ⟨b3, by show FOk 30 (nF A2 48) (lv7 (A2 27)) (VF A2 48) (A2 48 9); rw [b4, C2, b1, s2]; exact fsc _⟩, RuC_fr hq.1.2.1 (fun c k u v => g2 c k (by omega) (by omega))⟩, fun A3 h3 => ?_⟩
    obtain ⟨c1, -, c3⟩ := h3
    change VF A3 48 = gunV (nF A2 48) (lv7 (A2 27)) R ((lv7 (A2 27)) 5 - (A2 48 9)).toNatClampNeg (VF A2 48) (A2 48 9) at c1
    rw [b4, C2, b1, s2] at c1
    have n3 : nF A3 48 = n := by unfold nF; rw [c3 48 8 (by (try dsimp only); omega)]; exact b4
    have o3 : okF A3 48 := ⟨by rw [n3, c3 48 8 (by (try dsimp only); omega), b3.1, b4], by rw [n3]; exact hn8⟩
    have g3 : ∀ c k, (c = 27 ∨ c = 90 ∨ c = 86) → A3 c k = A c k := fun c k u => by rw [c3 c k (by (try dsimp only); omega), b5 c k (by (try dsimp only); omega), a5 c k (by (try dsimp only); omega)]
    have C3 : lv7 (A3 27) = C := by rw [← C2]; exact lv7_fr (fun k => c3 27 k (by (try dsimp only); omega))
    have C36 : A3 27 6 = C 6 := by rw [← C3]; exact (lv7_at (by decide)).symm
    refine ⟨⟨by trivial, by unfold isCF; omega, mj_isk_mk _ _⟩, ⟨o3, by show lineOk (lv7 (A3 27)); rw [C3]; exact x8.1⟩, fun A4 h4 => ?_⟩
    obtain ⟨e1, e2, e3⟩ := h4
    change ∀ b, b < nF A3 48 → A4 90 b = A3 90 b + nI (place (nF A3 48) (lv7 (A3 27)) (A3 27 6) (VF A3 48) b) at e2
    rw [n3, C3, C36, c1] at e2
    refine hk (A4, J2) ⟨by dsimp only; rw [e1, g3 86 5 (by omega), p1, jn_succ]; rfl, fun b hb => ?_, fun c k u => ?_, by dsimp only; rw [b2, ul_s, tS]⟩
    · dsimp only
      rw [e2 b hb, g3 90 b (by omega), p2 b hb, Int32.add_assoc]
      rfl
    · dsimp only at u ⊢
      rw [e3 c k (by (try dsimp only); omega), c3 c k (by (try dsimp only); omega), b5 c k (by (try dsimp only); omega), a5 c k (by (try dsimp only); omega)]
      exact p3 c k (by (try dsimp only); omega)
  · obtain ⟨A, Ja⟩ := p
    obtain ⟨p1, p2, p3, p4⟩ := hI
    dsimp only at p1 p2 p3 p4 ⊢
    refine bX11_season_45 (Nat.le_of_ble_eq_true rfl) (nI k) (nI k) y A Ja ?_
    rw [if_neg Int32.lt_irrefl]
    have lo : ∀ c k, 91 ≤ c → A c k = I c k := fun c k u => p3 c k (by (try dsimp only); omega)
    obtain ⟨m1, m2, m3, m4, m5⟩ := qM_hi hq.2 lo
    refine ⟨_, A, Ja, rfl, rfl, inX12_season (Nat.le_of_ble_eq_true rfl) (nI k) y A Ja ?_⟩
    rw [lo 91 22 (by omega), w2.1, w3, if_neg (by rw [zero_n (by omega)]; omega), if_neg q1, if_neg q2, lo 91 42 (by omega), r3, if_neg q3]
    refine ⟨⟨by trivial, mj_isk_mk _ _⟩, fun B0 hB0 => ?_⟩
    obtain ⟨z1, -, z3⟩ := hB0
    have nMA : nM A = n := by rw [m2]; exact w3
    refine lp_inv (σ := (Nat → Nat → Int32) × (Nat → Nat → Int64)) (n := k) (G := fun i p => mj_G Ω l false mX12_season 60 0 0 (fun r' M' => ∃ (I2 : Nat → Nat → Int32) (J2 : Nat → Nat → Int64), r' = some (.int (A 86 5)) ∧ M' = mk I2 J2 ∧ Rel I2) 0 0 42 ([some (.ref 91), some (.int (nI k)), some (.long y), none, some (.int (nI i)), none], [], mk p.1 p.2)) (fun i p => p.1 91 42 = nI (r + i) ∧ (∀ j, j < i → ∀ b, b < n → p.1 118 (8 * (r + j) + b) = ssP w n C R V y j b) ∧ (∀ k, k < 49 → p.1 111 k = A 106 k) ∧ fr (fun c k => c = 111 ∨ (c = 106 ∧ k < 49) ∨ (100 ≤ c ∧ c ≤ 101) ∨ (107 ≤ c ∧ c ≤ 109) ∨ (c = 91 ∧ (k = 26 ∨ k = 42)) ∨ (c = 118 ∧ 8 * r ≤ k)) A p.1 ∧ p.2 91 32 = ssZ w n V y i) (fun i p hi hI hk => ?_) (fun p hI => ?_) k 0 (B0, mj_ul Ja 91 32 y) (by omega) ⟨by dsimp only; rw [z3 91 42 (by (try dsimp only); omega), lo 91 42 (by omega)]; exact r3, fun j hj => absurd hj (Nat.not_lt_zero j), fun k hk => by have := z1 k hk; rw [Nat.zero_add k] at this; exact this, fr_mo z3 (fun c k u => by (try dsimp only); omega), by show mj_ul Ja 91 32 y 91 32 = y; exact ul_s⟩
    · obtain ⟨B, Jb⟩ := p
      obtain ⟨p1', p2', p3', p4', p5'⟩ := hI
      dsimp only at p1' p2' p3' p4' p5' ⊢
      obtain ⟨oB, nB, tB⟩ := mM_fr p4' (by (try dsimp only); omega) m1.1
      rw [nMA] at nB tB
      refine bX12_season_42 (Nat.le_of_ble_eq_true rfl) (nI k) (nI i) y B Jb ?_
      rw [if_pos (nlt hi (by omega))]
      refine ⟨⟨by trivial, mj_isk_mk _ _⟩, oB, fun D0 hD0 => ?_⟩
      obtain ⟨d1, d2, d3⟩ := hD0
      obtain ⟨oD, nD, tD⟩ := mM_fr d3 (by (try dsimp only); omega) oB
      rw [nB] at nD tD
      have VD : VM D0 = V := by
        rw [vm_bg nD nB d1 (fun k => d3 105 k (by (try dsimp only); omega)), x7]
        exact vB_c (fun k _ => by rw [p4' 105 k (by (try dsimp only); omega)]; exact lo 105 k (by omega))
      have CD : lv7 (D0 104) = C := by
        rw [← x1, ← m4]
        exact lv7_fr (fun k => by rw [d3 104 k (by (try dsimp only); omega)]; exact p4' 104 k (by (try dsimp only); omega))
      refine lp_inv (σ := (Nat → Nat → Int32) × (Nat → Nat → Int64)) (n := n) (G := fun j q => mj_G Ω l false mX12_season 60 0 0 (fun r' M' => ∃ (I2 : Nat → Nat → Int32) (J2 : Nat → Nat → Int64), r' = some (.int (A 86 5)) ∧ M' = mk I2 J2 ∧ Rel I2) 0 0 55 ([some (.ref 91), some (.int (nI k)), some (.long y), none, some (.int (nI i)), some (.int (nI j))], [], mk q.1 q.2)) (fun j q => VM q.1 = (scN w j (V, ssZ w n V y i)).1 ∧ q.2 91 32 = (scN w j (V, ssZ w n V y i)).2 ∧ fr (fun c k => c = 106 ∧ k < 48) D0 q.1) (fun j q hj hQ hkk => ?_) (fun q hQ => ?_) n 0 (D0, Jb) (by omega) ⟨VD, p5', fr_rf⟩
      · obtain ⟨E, Je⟩ := q
        obtain ⟨u1, u2, u3⟩ := hQ
        dsimp only at u1 u2 u3 ⊢
        obtain ⟨oE, nE, tE⟩ := mM_fr u3 (by (try dsimp only); omega) oD
        rw [nD] at nE tE
        refine bX12_season_55 (Nat.le_of_ble_eq_true rfl) (nI k) (nI i) (nI j) y E Je ?_
        rw [tE, if_pos (nlt hj (by omega)), jn_succ]
        have E0 : E 104 0 = nI w := by rw [u3 104 0 (by (try dsimp only); omega), ← ew, ← CD]; exact (lv7_at (by decide)).symm
        refine ⟨⟨by trivial, mj_isk_mk _ _⟩, j, rfl, w, ⟨oE, by omega, E0, hw2, hw20, by rw [u1]; exact dst_N (by omega) (by omega) j (by omega)⟩, fun E1 J1 h1 => ?_⟩
        obtain ⟨v1, v2, v3⟩ := h1
        rw [u1, u2] at v1
        exact hkk (E1, J1) ⟨v1, by dsimp only; rw [v2, ul_s, u2]; rfl, fr_tr u3 v3⟩
      · obtain ⟨E, Je⟩ := q
        obtain ⟨u1, u2, u3⟩ := hQ
        dsimp only at u1 u2 u3 ⊢
        obtain ⟨oE, nE, tE⟩ := mM_fr u3 (by (try dsimp only); omega) oD
        rw [nD] at nE tE
        have sE : E 106 48 = 0 := by rw [u3 106 48 (by (try dsimp only); omega)]; exact d2
        have CE : lv7 (E 104) = C := by rw [← CD]; exact lv7_fr (fun k => u3 104 k (by (try dsimp only); omega))
        have gE : ∀ c k, ¬ (c = 106 ∧ k < 49) → E c k = B c k := fun c k u => by rw [u3 c k (by (try dsimp only); omega)]; exact d3 c k (by (try dsimp only); omega)
        have h25E : E 91 25 = -1 := by rw [gE 91 25 (by omega), p4' 91 25 (by (try dsimp only); omega)]; exact m1.2.2.2.1
        refine bX12_season_55 (Nat.le_of_ble_eq_true rfl) (nI k) (nI i) (nI n) y E Je ?_
        rw [tE, if_neg Int32.lt_irrefl]
        have rE : RuM E m R := RuM_fr' m1.2.1 (fun c k q1 q2 => by rw [gE c k (by omega)]; exact p4' c k (by (try dsimp only); omega)) (by rw [gE 91 13 (by omega)]; exact p4' 91 13 (by (try dsimp only); omega))
        refine ⟨⟨by trivial, mj_isk_mk _ _⟩, 30, m, R, ⟨by decide, ⟨oE, by rw [nE, CE, u1, sE]; exact fsc _⟩, rE, Or.inl h25E⟩, fun H hH => ?_⟩
        obtain ⟨t1, t2, t3⟩ := hH
        rw [h25E, gunG_V, nE, CE, u1, sE] at t1
        rw [CE] at t2
        obtain ⟨oH, nH, tH⟩ := mM_fr t3 (by (try dsimp only); omega) oE
        rw [nE] at nH tH
        have CH : lv7 (H 104) = C := by rw [← CE]; exact lv7_fr (fun k => t3 104 k (by (try dsimp only); omega))
        have H6 : H 104 6 = C 6 := by rw [← CH]; exact (lv7_at (by decide)).symm
        refine ⟨⟨by trivial, mj_isk_mk _ _⟩, 30, r + i, ⟨by omega, by rw [t3 91 42 (by (try dsimp only); omega), gE 91 42 (by omega)]; exact p1', by decide, ⟨oH, by rw [nH, CH, t1, t2]; exact fgn _⟩⟩, fun L hL => ?_⟩
        obtain ⟨l1, l2, l3⟩ := hL
        rw [nH, CH, H6, t1] at l2
        have gL : ∀ c k, ¬ (c = 106 ∧ k < 49) → ¬ (100 ≤ c ∧ c ≤ 101) → ¬ (107 ≤ c ∧ c ≤ 109) → ¬ (c = 91 ∧ (k = 26 ∨ k = 42)) → ¬ (c = 118 ∧ 8 * (r + i) ≤ k) → L c k = B c k := fun c k a1 a2 a3 a4 a5 => by rw [l3 c k (by (try dsimp only); omega), t3 c k (by (try dsimp only); omega)]; exact gE c k a1
        rw [jn_succ]
        refine hk (L, Je) ⟨l1, fun j hj b hb => ?_, fun k hk => ?_, fun c k u => ?_, by dsimp only; rw [u2, tS]⟩
        · dsimp only
          by_cases e : j = i
          · rw [e]; exact l2 b hb
          · rw [gL 118 _ (by omega) (by omega) (by omega) (by omega) (by omega)]; exact p2' j (by omega) b hb
        · dsimp only
          rw [gL 111 k (by omega) (by omega) (by omega) (by omega) (by omega)]; exact p3' k hk
        · dsimp only at u ⊢
          rw [gL c k (by omega) (by omega) (by omega) (by omega) (by omega)]; exact p4' c k u
    · obtain ⟨B, Jb⟩ := p
      obtain ⟨p1', p2', p3', p4', p5'⟩ := hI
      dsimp only at p1' p2' p3' p4' p5' ⊢
      refine bX12_season_42 (Nat.le_of_ble_eq_true rfl) (nI k) (nI k) y B Jb ?_
      rw [if_neg Int32.lt_irrefl]
      refine ⟨⟨by trivial, mj_isk_mk _ _⟩, fun M hM => ?_⟩
      obtain ⟨d1, d2, d3, d4⟩ := hM
      have gM : ∀ c k, ¬ (c = 106 ∧ k < 49) → ¬ (c = 91 ∧ (k = 25 ∨ k = 26)) → M c k = B c k := fun c k a1 a2 => d4 c k (by (try dsimp only); omega)
      have e42 : M 91 42 = nI (r + k) := by rw [gM 91 42 (by omega) (by omega)]; exact p1'
      have eA : ∀ c k, c < 91 → M c k = A c k := fun c k u => by rw [gM c k (by omega) (by omega)]; exact p4' c k (by (try dsimp only); omega)
      refine ⟨M, Jb, by rw [e42, p1], rfl, Rel_season (i := k) (P := ssP w n C R V y) h hrk r2 (by omega) (by rw [eA 86 5 (by omega)]; exact p1) e42 (fun b hb => by rw [eA 90 b (by omega)]; exact p2 b (by omega)) (fun j hj b hb => by rw [gM 118 _ (by omega) (by omega)]; exact p2' j hj b (by omega)) d2 d3 (fun c k u => ?_)⟩
      unfold ssF at u
      by_cases e6 : c = 106 ∧ k < 49
      · rw [e6.1, d1 k e6.2, p3' k e6.2]; exact lo 106 k (by omega)
      · rw [gM c k e6 (by omega), p4' c k (by (try dsimp only); omega)]
        exact p3 c k (by (try dsimp only); omega)
