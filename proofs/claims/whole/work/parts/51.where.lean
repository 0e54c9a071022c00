/-! ===== where, near, hold, row, keeps, flag: the class (by program, wip/whole/p51.py) ===== -/
theorem FOk_gun {u : Int} {n : Nat} {C : Nat → Int32} {R : RF} (hn : n ≤ 8) : ∀ (k : Nat) (F : Vw) (s : Int32), s.toInt + k ≤ (C 5).toInt → FOk u n C F s → ∃ s', FOk u n C (gunV n C R k F s) s' := by
  intro k
  induction k with
  | zero => intro F s _ h; exact ⟨s, h⟩
  | succ k ih =>
    intro F s hs h
    have e := i_add1 (x := s) (by have := Int32.toInt_lt (C 5); omega)
    exact ih _ _ (by omega) (FOk_pass hn h (by omega))
theorem FOk_gunA {u : Int} {n : Nat} {C : Nat → Int32} {R : RF} {F : Vw} {s : Int32} (hn : n ≤ 8) (h : FOk u n C F s) : ∃ s', FOk u n C (gunA n C R F s) s' := by
  have l5 := h.1.2.2.2.2.2.1
  have hs := h.2.1
  have eL := i_sub (x := C 5) (y := s) (by omega)
  exact FOk_gun hn _ F s (by rw [Int32.toNatClampNeg, eL]; omega) h
theorem FOk_mv {n b : Nat} {C : Nat → Int32} {F : Vw} {s x y : Int32} (h : FOk 19 n C F s) (hx : 0 ≤ x.toInt ∧ x.toInt < (C 0).toInt) (hy : -(30 * s.toInt) ≤ y.toInt ∧ y.toInt ≤ 40) : FOk 40 n C (vup (vup F 0 b x) 1 b y) s := by
  refine ⟨h.1, h.2.1, fun i hi => ?_⟩
  have hF := h.2.2 i hi
  obtain ⟨b0, b1, b2, b3, b4⟩ := hF
  by_cases q : i = b
  · subst q
    refine ⟨?_, ?_, ?_, ?_, ?_⟩
    · rw [vup_k (by decide), vup_s]; exact hx
    · rw [vup_s]; exact hy
    · rw [vup_k (by decide), vup_k (by decide), vup_k (by decide), vup_k (by decide)]; exact b2
    · rw [vup_k (by decide), vup_k (by decide)]; exact b3
    · rw [vup_k (by decide), vup_k (by decide)]; exact b4
  · refine ⟨?_, ?_, ?_, ?_, ?_⟩
    · rw [vup_b q, vup_b q]; exact b0
    · rw [vup_b q, vup_b q]; exact ⟨b1.1, by omega⟩
    · rw [vup_b q, vup_b q, vup_b q, vup_b q]; exact b2
    · rw [vup_b q, vup_b q]; exact b3
    · rw [vup_b q, vup_b q]; exact b4
theorem sFrom_b {n b : Nat} {C : Nat → Int32} {R : RF} {F : Vw} {s x y : Int32} (hn : n ≤ 8) (hb : b < n) (h : FOk 40 n C (vup (vup F 0 b x) 1 b y) s) : -2000 ≤ (sFrom n C R F s b x y).toInt ∧ (sFrom n C R F s b x y).toInt ≤ 1000 := by
  obtain ⟨s', h'⟩ := FOk_gunA (R := R) hn h
  exact score_b (by decide) h' hb
theorem mH : (-1000000 : Int32).toInt = -1000000 := rfl
def bC (q : Option (Nat × Int32)) (x3 x4 : Int32) : Prop := match q with
  | none => x3 = -1000000 ∧ x4 = -1000000
  | some p => x3 = p.2 ∧ x4 = nI p.1
theorem bC_y1 {ok : Nat → Prop} {sc : Nat → Int32} {v : Nat} {x3 x4 : Int32} (h : bC (bstN ok sc v) x3 x4) (ho : ok v) (hx : x3 < sc v) : bC (bstN ok sc (v + 1)) (sc v) (nI v) := by
  unfold bstN
  match hq : bstN ok sc v with
  | none => simp only; rw [cif_t ho]; exact ⟨rfl, rfl⟩
  | some p =>
    rw [hq] at h
    simp only
    rw [cif_t ⟨ho, by rw [← h.1]; exact hx⟩]
    exact ⟨rfl, rfl⟩
theorem bC_y0 {ok : Nat → Prop} {sc : Nat → Int32} {v : Nat} {x3 x4 : Int32} (h : bC (bstN ok sc v) x3 x4) (hs : -2000 ≤ (sc v).toInt) (hx : ¬ x3 < sc v) : bC (bstN ok sc (v + 1)) x3 x4 := by
  unfold bstN
  match hq : bstN ok sc v with
  | none =>
    rw [hq] at h
    exfalso
    apply hx
    rw [h.1, Int32.lt_iff_toInt_lt, mH]
    omega
  | some p =>
    rw [hq] at h
    simp only
    rw [cif_f (fun w => hx (by rw [h.1]; exact w.2))]
    exact h
theorem bC_n {ok : Nat → Prop} {sc : Nat → Int32} {v : Nat} {x3 x4 : Int32} (h : bC (bstN ok sc v) x3 x4) (ho : ¬ ok v) : bC (bstN ok sc (v + 1)) x3 x4 := by
  unfold bstN
  match hq : bstN ok sc v with
  | none =>
    rw [hq] at h
    simp only
    rw [cif_f ho]
    exact h
  | some p =>
    rw [hq] at h
    simp only
    rw [cif_f (fun w => ho w.1)]
    exact h
theorem bC_r {q : Option (Nat × Int32)} {x3 x4 w : Int32} (h : bC q x3 x4) : resB q w = if w = 0 then x4 else x3 := by
  unfold resB
  match q with
  | none => simp only; rw [h.1, h.2]; split <;> rfl
  | some p => simp only; rw [h.1, h.2]
theorem qC_q {I I1 : Nat → Nat → Int32} {m : Nat} {R : RF} (h : qC I m R) (e : fr Scr I I1) : qC I1 m R ∧ nF I1 39 = nF I 39 ∧ VF I1 39 = VF I 39 ∧ lv7 (I1 27) = lv7 (I 27) ∧ I1 39 9 = I 39 9 := by
  obtain ⟨n39, V39, o39, s39⟩ := FF_fr (I := I) (I1 := I1) (f := 39) (fun c k h1 h2 => e c k (by unfold Scr; omega))
  have C7 : lv7 (I1 27) = lv7 (I 27) := lv7_fr (fun k => e 27 k (by unfold Scr; omega))
  refine ⟨⟨o39 h.1, RuC_fr h.2.1 (fun c k q1 q2 => e c k (by unfold Scr; omega)), fun hn => ?_⟩, n39, V39, C7, s39⟩
  rw [n39] at hn ⊢
  rw [C7, V39, s39]
  exact h.2.2 hn
def csX11_where : List (Nat × Nat × Nat × mj_PT) := [(160, 0, 2, mj_rcv 11 tX11_isBoat), (218, 0, 3, mj_rcv 3 tX3_isHeld), (254, 1, 1, tX11_isChoice), (257, 0, 4, mj_rcv 11 tX11_scoreFrom)]
theorem csX11_where_ok : mj_Cs mX11_where 7 csX11_where := (mj_CsV (D' := 1) (ci := 11) (q := (RX11, TX11, 18)) sdX11_isBoat (Nat.le_of_ble_eq_true rfl) fX11_isBoat rfl rfl iX11_isBoat vX11_isBoat (by decide +kernel) l11_160 (mj_CsV (D' := 1) (ci := 3) (q := (RX3, TX3, 10)) sdX3_isHeld (Nat.le_of_ble_eq_true rfl) fX3_isHeld rfl rfl iX3_isHeld vX3_isHeld (by decide +kernel) l11_218 (mj_CsS (D' := 1) sdX11_isChoice (Nat.le_of_ble_eq_true rfl) fX11_isChoice sX11_isChoice (by decide +kernel) l11_254 (mj_CsV (D' := 6) (ci := 11) (q := (RX11, TX11, 18)) sdX11_scoreFrom (Nat.le_of_ble_eq_true rfl) fX11_scoreFrom rfl rfl iX11_scoreFrom vX11_scoreFrom (by decide +kernel) l11_257 mj_Cs0))))
def cutX11_where : List (Nat × List Bool) := [(28, [true, true, true, true, true, true, false])]
def pX11_where_0 : List (Nat × Instr × Nat) := [(0, .aload_n 0, 1), (1, .iload_n 1, 1), (2, .invokevirtual 160, 3), (5, .ifCond .eq 10, 3), (8, .iload_n 2, 1), (9, .invokestatic 254, 3), (12, .ifCond .ne 6, 3), (15, .ldc 250, 2), (17, .ireturn, 1), (18, .ldc 250, 2), (20, .istore_n 3, 1), (21, .ldc 250, 2), (23, .istore 4, 2), (25, .iconst 0, 1), (26, .istore 5, 2), (28, .iload 5, 2)]
set_option maxRecDepth 100000 in
theorem dX11_where_0 : mj_pd cX11_where pX11_where_0 := mj_pdB (by decide +kernel)
set_option maxRecDepth 100000 in
set_option maxHeartbeats 4000000 in
theorem inX11_where {Ω : mj_Om} {l : Launch} {d : Nat} {Φ : Option Value → mj_M → Prop} (hd : 7 ≤ d) (b : Int32) (w : Int32) (I : Nat → Nat → Int32) (J : Nat → Nat → Int64)
    (h : ((if b < (0 : Int32) then (Φ (some (.int (-1000000 : Int32))) (mk I J)) else (if b < (I 39 8) then (if w = (0 : Int32) then (mj_G Ω l false mX11_where d 0 0 Φ 0 0 28 ([some (.ref 0), some (.int b), some (.int w), some (.int (-1000000 : Int32)), some (.int (-1000000 : Int32)), some (.int (0 : Int32)), none], [], (mk I J))) else (if w = (1 : Int32) then (mj_G Ω l false mX11_where d 0 0 Φ 0 0 28 ([some (.ref 0), some (.int b), some (.int w), some (.int (-1000000 : Int32)), some (.int (-1000000 : Int32)), some (.int (0 : Int32)), none], [], (mk I J))) else (Φ (some (.int (-1000000 : Int32))) (mk I J)))) else (Φ (some (.int (-1000000 : Int32))) (mk I J)))))) :
    mj_Met Ω l false mX11_where d 0 0 [.ref 0, .int b, .int w] (mk I J) Φ := mj_entry (by decide) rfl (fun h => (by cases h)) (Nat.le_of_ble_eq_true rfl) (mj_blk (μ := mX11_where) (P := pX11_where_0) (cut := cutX11_where) (cs := csX11_where) dX11_where_0 csX11_where_ok hd 17 0 _ h)
def pX11_where_28 : List (Nat × Instr × Nat) := [(28, .iload 5, 2), (30, .aload_n 0, 1), (31, .getfield 42, 3), (34, .getfield 208, 3), (37, .iconst 0, 1), (38, .iaload, 1), (39, .if_icmp .ge 78, 3), (42, .iload 5, 2), (44, .aload_n 0, 1), (45, .getfield 56, 3), (48, .getfield 167, 3), (51, .iload_n 1, 1), (52, .iaload, 1), (53, .if_icmp .eq 27, 3), (56, .aload_n 0, 1), (57, .getfield 56, 3), (60, .iload 5, 2), (62, .aload_n 0, 1), (63, .getfield 56, 3), (66, .getfield 170, 3), (69, .iload_n 1, 1), (70, .iaload, 1), (71, .invokevirtual 218, 3), (74, .ifCond .eq 6, 3), (77, .goto 34, 3), (80, .aload_n 0, 1), (81, .iload_n 1, 1), (82, .iload 5, 2), (84, .aload_n 0, 1), (85, .getfield 56, 3), (88, .getfield 170, 3), (91, .iload_n 1, 1), (92, .iaload, 1), (93, .invokevirtual 257, 3), (96, .istore 6, 2), (98, .iload 6, 2), (100, .iload_n 3, 1), (101, .if_icmp .le 10, 3), (104, .iload 6, 2), (106, .istore_n 3, 1), (107, .iload 5, 2), (109, .istore 4, 2), (111, .iinc 5 1, 3), (114, .goto (-86), 3), (117, .iload_n 2, 1), (118, .ifCond .ne 8, 3), (121, .iload 4, 2), (123, .goto 4, 3), (126, .iload_n 3, 1), (127, .ireturn, 1)]
set_option maxRecDepth 100000 in
theorem dX11_where_28 : mj_pd cX11_where pX11_where_28 := mj_pdB (by decide +kernel)
set_option maxRecDepth 100000 in
set_option maxHeartbeats 4000000 in
theorem bX11_where_28 {Ω : mj_Om} {l : Launch} {d : Nat} {Φ : Option Value → mj_M → Prop} (hd : 7 ≤ d) (x1 : Int32) (x2 : Int32) (x3 : Int32) (x4 : Int32) (x5 : Int32) (I : Nat → Nat → Int32) (J : Nat → Nat → Int64)
    (h : ((if x5 < (I 27 0) then (mj_gd (mj_inB x1 8) (if x5 = (I 40 (x1).toNatClampNeg) then (mj_gd (mj_inB x1 8) ((0 = 0 ∧ mj_isk (mk I J)) ∧ (∃ b387 : Nat, x1 = nI b387 ∧ (∃ m388 : Nat, (∃ R389 : RF, ((qC I m388 R389 ∧ b387 < nF I 39 ∧ FOk 40 (nF I 39) (lv7 (I 27)) (vup (vup (VF I 39) 0 b387 x5) 1 b387 (I 41 (x1).toNatClampNeg)) (I 39 9)) ∧ (∀ I390 : Nat → Nat → Int32, (fr Scr I I390) → (if x3 < (sFrom (nF I 39) (lv7 (I 27)) R389 (VF I 39) (I 39 9) b387 x5 (I 41 (x1).toNatClampNeg)) then (mj_G Ω l false mX11_where d 0 0 Φ 0 0 28 ([some (.ref 0), some (.int x1), some (.int x2), some (.int (sFrom (nF I 39) (lv7 (I 27)) R389 (VF I 39) (I 39 9) b387 x5 (I 41 (x1).toNatClampNeg))), some (.int x5), some (.int (x5 + (1 : Int32))), none], [], (mk I390 J))) else (mj_G Ω l false mX11_where d 0 0 Φ 0 0 28 ([some (.ref 0), some (.int x1), some (.int x2), some (.int x3), some (.int x4), some (.int (x5 + (1 : Int32))), none], [], (mk I390 J))))))))))) else (mj_gd (mj_inB x1 8) ((isF3 39 ∧ mj_isk (mk I J)) ∧ ((okF I 39) ∧ (if (b2i (held (nF I 39) (VF I 39) x5 (I 41 (x1).toNatClampNeg))) = (0 : Int32) then (mj_gd (mj_inB x1 8) ((0 = 0 ∧ mj_isk (mk I J)) ∧ (∃ b392 : Nat, x1 = nI b392 ∧ (∃ m393 : Nat, (∃ R394 : RF, ((qC I m393 R394 ∧ b392 < nF I 39 ∧ FOk 40 (nF I 39) (lv7 (I 27)) (vup (vup (VF I 39) 0 b392 x5) 1 b392 (I 41 (x1).toNatClampNeg)) (I 39 9)) ∧ (∀ I395 : Nat → Nat → Int32, (fr Scr I I395) → (if x3 < (sFrom (nF I 39) (lv7 (I 27)) R394 (VF I 39) (I 39 9) b392 x5 (I 41 (x1).toNatClampNeg)) then (mj_G Ω l false mX11_where d 0 0 Φ 0 0 28 ([some (.ref 0), some (.int x1), some (.int x2), some (.int (sFrom (nF I 39) (lv7 (I 27)) R394 (VF I 39) (I 39 9) b392 x5 (I 41 (x1).toNatClampNeg))), some (.int x5), some (.int (x5 + (1 : Int32))), none], [], (mk I395 J))) else (mj_G Ω l false mX11_where d 0 0 Φ 0 0 28 ([some (.ref 0), some (.int x1), some (.int x2), some (.int x3), some (.int x4), some (.int (x5 + (1 : Int32))), none], [], (mk I395 J))))))))))) else (mj_G Ω l false mX11_where d 0 0 Φ 0 0 28 ([some (.ref 0), some (.int x1), some (.int x2), some (.int x3), some (.int x4), some (.int (x5 + (1 : Int32))), none], [], (mk I J))))))))) else (if x2 = (0 : Int32) then (Φ (some (.int x4)) (mk I J)) else (Φ (some (.int x3)) (mk I J)))))) :
    mj_G Ω l false mX11_where d 0 0 Φ 0 0 28 ([some (.ref 0), some (.int x1), some (.int x2), some (.int x3), some (.int x4), some (.int x5), none], [], mk I J) := mj_blk (μ := mX11_where) (P := pX11_where_28) (cut := cutX11_where) (cs := csX11_where) dX11_where_28 csX11_where_ok hd 51 28 _ h
def tX11_where : mj_PT := fun as M Φ => match as with
  | [.ref this, .int b, .int w] => ((this = 0 ∧ mj_isk M) ∧ (∃ m : Nat, (∃ R : RF, ((qC M.2.2.1 m R) ∧ (∀ I1 : Nat → Nat → Int32, (fr Scr M.2.2.1 I1) → Φ (some (.int (whereR (nF M.2.2.1 39) (lv7 (M.2.2.1 27)) R (VF M.2.2.1 39) (M.2.2.1 39 9) b w))) (M.1, M.2.1, I1, M.2.2.2))))))
  | _ => False
set_option maxHeartbeats 8000000 in
theorem mnX11_where {Ω : mj_Om} {l : Launch} {d : Nat} {Φ : Option Value → mj_M → Prop} (hd : 7 ≤ d) (b : Int32) (w : Int32) (m : Nat) (R : RF) (I : Nat → Nat → Int32) (J : Nat → Nat → Int64) (hp : qC I m R) (h : ∀ I1 : Nat → Nat → Int32, (fr Scr I I1) → Φ (some (.int (whereR (nF I 39) (lv7 (I 27)) R (VF I 39) (I 39 9) b w))) (mk I1 J)) : mj_Met Ω l false mX11_where d 0 0 [.ref 0, .int b, .int w] (mk I J) Φ := by
  refine inX11_where hd b w I J ?_
  obtain ⟨⟨hc, hn⟩, hR, hFF⟩ := id hp
  have hH : ¬ (okBN (nF I 39) b ∧ (w = 0 ∨ w = 1)) → Φ (some (.int (-1000000))) (mk I J) := fun q => by
    have := h I fr_rf
    unfold whereR at this
    rwa [cif_f q] at this
  by_cases hb0 : b < 0
  · rw [if_pos hb0]; exact hH (fun w => absurd hb0 (Int32.not_lt.mpr w.1.1))
  rw [if_neg hb0, hc]
  by_cases hb1 : b < nI (nF I 39)
  case neg => rw [if_neg hb1]; exact hH (fun w => hb1 w.1.2)
  rw [if_pos hb1]
  obtain ⟨k, hk, rfl⟩ := okB_of hb0 hb1 hn
  have hF := hFF (by omega)
  have hok := okBN_n hk hn
  have l0 := hF.1.1
  have hcl0 : (lv7 (I 27) 0).toNatClampNeg = (lv7 (I 27) 0).toInt.toNat := rfl
  have hbk := hF.2.2 k hk
  have key : ∀ (j v : Nat) (x3 x4 : Int32) (I' : Nat → Nat → Int32), v + j = (lv7 (I 27) 0).toNatClampNeg → bC (bstN (fun v => nI v = VF I 39 0 k ∨ ¬ held (nF I 39) (VF I 39) (nI v) (VF I 39 1 k)) (fun v => sFrom (nF I 39) (lv7 (I 27)) R (VF I 39) (I 39 9) k (nI v) (VF I 39 1 k)) v) x3 x4 → fr Scr I I' → (w = 0 ∨ w = 1) → mj_G Ω l false mX11_where d 0 0 Φ 0 0 28 ([some (.ref 0), some (.int (nI k)), some (.int w), some (.int x3), some (.int x4), some (.int (nI v)), none], [], mk I' J) := by
    intro j
    induction j with
    | zero =>
      intro v x3 x4 I' hv hb hfr hw
      refine bX11_where_28 hd (nI k) w x3 x4 (nI v) I' J ?_
      obtain ⟨q1, q2, q3, q4, q5⟩ := qC_q hp hfr
      have e0 : I' 27 0 = nI (lv7 (I 27) 0).toNatClampNeg := by rw [← lv7_at (g := I' 27) (by decide), q4]; exact jn_of (by rw [Int32.le_iff_toInt_le, i_0]; omega)
      rw [e0, if_neg (by rw [jn_lt (by omega) (by omega)]; omega)]
      have h' := h I' hfr
      unfold whereR at h'
      rw [cif_t ⟨hok, hw⟩, jn_cl (by omega)] at h'
      rw [show v = (lv7 (I 27) 0).toNatClampNeg by omega] at hb
      rw [bC_r hb] at h'
      split
      · rename_i z; rw [if_pos z] at h'; exact h'
      · rename_i z; rw [if_neg z] at h'; exact h'
    | succ j ih =>
      intro v x3 x4 I' hv hb hfr hw
      refine bX11_where_28 hd (nI k) w x3 x4 (nI v) I' J ?_
      obtain ⟨q1, q2, q3, q4, q5⟩ := qC_q hp hfr
      have e0 : I' 27 0 = nI (lv7 (I 27) 0).toNatClampNeg := by rw [← lv7_at (g := I' 27) (by decide), q4]; exact jn_of (by rw [Int32.le_iff_toInt_le, i_0]; omega)
      rw [e0, if_pos (by rw [jn_lt (by omega) (by omega)]; omega)]
      simp (disch := omega) only [jn_in, jn_cl, gd_dec, jn_succ]
      rw [← VF_0 (I := I') (f := 39) (b := k) (by omega), ← VF_1 (I := I') (f := 39) (b := k) (by omega), q3, q2]
      have hFx : FOk 40 (nF I 39) (lv7 (I 27)) (vup (vup (VF I 39) 0 k (nI v)) 1 k (VF I 39 1 k)) (I 39 9) := FOk_mv hF (by rw [jn_toInt (by omega)]; omega) (by have := hbk.2.1; omega)
      have hsb := sFrom_b (R := R) hn hk hFx
      have sc : (nI v = VF I 39 0 k ∨ ¬ held (nF I 39) (VF I 39) (nI v) (VF I 39 1 k)) → ∀ I2 : Nat → Nat → Int32, fr Scr I' I2 → (if x3 < sFrom (nF I 39) (lv7 (I 27)) R (VF I 39) (I 39 9) k (nI v) (VF I 39 1 k) then mj_G Ω l false mX11_where d 0 0 Φ 0 0 28 ([some (.ref 0), some (.int (nI k)), some (.int w), some (.int (sFrom (nF I 39) (lv7 (I 27)) R (VF I 39) (I 39 9) k (nI v) (VF I 39 1 k))), some (.int (nI v)), some (.int (nI (v + 1))), none], [], mk I2 J) else mj_G Ω l false mX11_where d 0 0 Φ 0 0 28 ([some (.ref 0), some (.int (nI k)), some (.int w), some (.int x3), some (.int x4), some (.int (nI (v + 1))), none], [], mk I2 J)) := by
        intro ho I2 h2
        by_cases z : x3 < sFrom (nF I 39) (lv7 (I 27)) R (VF I 39) (I 39 9) k (nI v) (VF I 39 1 k)
        · rw [if_pos z]
          exact ih (v + 1) _ _ I2 (by omega) (bC_y1 hb ho z) (fr_tr hfr h2) hw
        · rw [if_neg z]
          exact ih (v + 1) _ _ I2 (by omega) (bC_y0 hb hsb.1 z) (fr_tr hfr h2) hw
      by_cases y0 : nI v = VF I 39 0 k
      · rw [if_pos y0]
        refine ⟨⟨by trivial, mj_isk_mk _ _⟩, k, rfl, m, R, ⟨q1, by omega, by rw [q4, q5]; exact hFx⟩, fun I2 h2 => ?_⟩
        rw [q4, q5]
        exact sc (Or.inl y0) I2 h2
      · rw [if_neg y0]
        refine ⟨⟨Or.inl rfl, mj_isk_mk _ _⟩, q1.1, ?_⟩
        split
        · rename_i y1
          rw [b2i_e0] at y1
          refine ⟨⟨by trivial, mj_isk_mk _ _⟩, k, rfl, m, R, ⟨q1, by omega, by rw [q4, q5]; exact hFx⟩, fun I2 h2 => ?_⟩
          rw [q4, q5]
          exact sc (Or.inr y1) I2 h2
        · rename_i y1
          rw [b2i_e0] at y1
          exact ih (v + 1) _ _ I' (by omega) (bC_n hb (fun z => z.elim y0 y1)) hfr hw
  by_cases w0 : w = 0
  · rw [if_pos w0]
    exact key ((lv7 (I 27) 0).toNatClampNeg) 0 _ _ I (by omega) ⟨rfl, rfl⟩ fr_rf (Or.inl w0)
  rw [if_neg w0]
  by_cases w1 : w = 1
  · rw [if_pos w1]
    exact key ((lv7 (I 27) 0).toNatClampNeg) 0 _ _ I (by omega) ⟨rfl, rfl⟩ fr_rf (Or.inr w1)
  rw [if_neg w1]
  exact hH (fun z => z.2.elim w0 w1)
theorem sdX11_where : mj_Sd mX11_where 7 tX11_where := by
  intro Ω l d hd as M Φ h
  unfold tX11_where at h
  split at h
  · rename_i z_this b w
    obtain ⟨⟨rfl, hM⟩, m, R, hp, h⟩ := h
    rw [mj_isk_of hM]
    exact mnX11_where hd b w m R _ _ hp (by
      rw [mj_isk_of hM] at h
      exact h)
  · exact h.elim
def csX11_near : List (Nat × Nat × Nat × mj_PT) := [(160, 0, 2, mj_rcv 11 tX11_isBoat), (218, 0, 3, mj_rcv 3 tX3_isHeld), (254, 1, 1, tX11_isChoice), (257, 0, 4, mj_rcv 11 tX11_scoreFrom)]
theorem csX11_near_ok : mj_Cs mX11_near 7 csX11_near := (mj_CsV (D' := 1) (ci := 11) (q := (RX11, TX11, 18)) sdX11_isBoat (Nat.le_of_ble_eq_true rfl) fX11_isBoat rfl rfl iX11_isBoat vX11_isBoat (by decide +kernel) l11_160 (mj_CsV (D' := 1) (ci := 3) (q := (RX3, TX3, 10)) sdX3_isHeld (Nat.le_of_ble_eq_true rfl) fX3_isHeld rfl rfl iX3_isHeld vX3_isHeld (by decide +kernel) l11_218 (mj_CsS (D' := 1) sdX11_isChoice (Nat.le_of_ble_eq_true rfl) fX11_isChoice sX11_isChoice (by decide +kernel) l11_254 (mj_CsV (D' := 6) (ci := 11) (q := (RX11, TX11, 18)) sdX11_scoreFrom (Nat.le_of_ble_eq_true rfl) fX11_scoreFrom rfl rfl iX11_scoreFrom vX11_scoreFrom (by decide +kernel) l11_257 mj_Cs0))))
def cutX11_near : List (Nat × List Bool) := [(28, [true, true, true, true, true, true, false])]
def pX11_near_0 : List (Nat × Instr × Nat) := [(0, .aload_n 0, 1), (1, .iload_n 1, 1), (2, .invokevirtual 160, 3), (5, .ifCond .eq 10, 3), (8, .iload_n 2, 1), (9, .invokestatic 254, 3), (12, .ifCond .ne 6, 3), (15, .ldc 250, 2), (17, .ireturn, 1), (18, .ldc 250, 2), (20, .istore_n 3, 1), (21, .ldc 250, 2), (23, .istore 4, 2), (25, .iconst 0, 1), (26, .istore 5, 2), (28, .iload 5, 2)]
set_option maxRecDepth 100000 in
theorem dX11_near_0 : mj_pd cX11_near pX11_near_0 := mj_pdB (by decide +kernel)
set_option maxRecDepth 100000 in
set_option maxHeartbeats 4000000 in
theorem inX11_near {Ω : mj_Om} {l : Launch} {d : Nat} {Φ : Option Value → mj_M → Prop} (hd : 7 ≤ d) (b : Int32) (w : Int32) (I : Nat → Nat → Int32) (J : Nat → Nat → Int64)
    (h : ((if b < (0 : Int32) then (Φ (some (.int (-1000000 : Int32))) (mk I J)) else (if b < (I 39 8) then (if w = (0 : Int32) then (mj_G Ω l false mX11_near d 0 0 Φ 0 0 28 ([some (.ref 0), some (.int b), some (.int w), some (.int (-1000000 : Int32)), some (.int (-1000000 : Int32)), some (.int (0 : Int32)), none], [], (mk I J))) else (if w = (1 : Int32) then (mj_G Ω l false mX11_near d 0 0 Φ 0 0 28 ([some (.ref 0), some (.int b), some (.int w), some (.int (-1000000 : Int32)), some (.int (-1000000 : Int32)), some (.int (0 : Int32)), none], [], (mk I J))) else (Φ (some (.int (-1000000 : Int32))) (mk I J)))) else (Φ (some (.int (-1000000 : Int32))) (mk I J)))))) :
    mj_Met Ω l false mX11_near d 0 0 [.ref 0, .int b, .int w] (mk I J) Φ := mj_entry (by decide) rfl (fun h => (by cases h)) (Nat.le_of_ble_eq_true rfl) (mj_blk (μ := mX11_near) (P := pX11_near_0) (cut := cutX11_near) (cs := csX11_near) dX11_near_0 csX11_near_ok hd 17 0 _ h)
def pX11_near_28 : List (Nat × Instr × Nat) := [(28, .iload 5, 2), (30, .bipush 19, 2), (32, .if_icmp .gt 78, 3), (35, .iload 5, 2), (37, .aload_n 0, 1), (38, .getfield 56, 3), (41, .getfield 170, 3), (44, .iload_n 1, 1), (45, .iaload, 1), (46, .if_icmp .eq 27, 3), (49, .aload_n 0, 1), (50, .getfield 56, 3), (53, .aload_n 0, 1), (54, .getfield 56, 3), (57, .getfield 167, 3), (60, .iload_n 1, 1), (61, .iaload, 1), (62, .iload 5, 2), (64, .invokevirtual 218, 3), (67, .ifCond .eq 6, 3), (70, .goto 34, 3), (73, .aload_n 0, 1), (74, .iload_n 1, 1), (75, .aload_n 0, 1), (76, .getfield 56, 3), (79, .getfield 167, 3), (82, .iload_n 1, 1), (83, .iaload, 1), (84, .iload 5, 2), (86, .invokevirtual 257, 3), (89, .istore 6, 2), (91, .iload 6, 2), (93, .iload_n 3, 1), (94, .if_icmp .le 10, 3), (97, .iload 6, 2), (99, .istore_n 3, 1), (100, .iload 5, 2), (102, .istore 4, 2), (104, .iinc 5 1, 3), (107, .goto (-79), 3), (110, .iload_n 2, 1), (111, .ifCond .ne 8, 3), (114, .iload 4, 2), (116, .goto 4, 3), (119, .iload_n 3, 1), (120, .ireturn, 1)]
set_option maxRecDepth 100000 in
theorem dX11_near_28 : mj_pd cX11_near pX11_near_28 := mj_pdB (by decide +kernel)
set_option maxRecDepth 100000 in
set_option maxHeartbeats 4000000 in
theorem bX11_near_28 {Ω : mj_Om} {l : Launch} {d : Nat} {Φ : Option Value → mj_M → Prop} (hd : 7 ≤ d) (x1 : Int32) (x2 : Int32) (x3 : Int32) (x4 : Int32) (x5 : Int32) (I : Nat → Nat → Int32) (J : Nat → Nat → Int64)
    (h : ((if (19 : Int32) < x5 then (if x2 = (0 : Int32) then (Φ (some (.int x4)) (mk I J)) else (Φ (some (.int x3)) (mk I J))) else (mj_gd (mj_inB x1 8) (if x5 = (I 41 (x1).toNatClampNeg) then (mj_gd (mj_inB x1 8) ((0 = 0 ∧ mj_isk (mk I J)) ∧ (∃ b407 : Nat, x1 = nI b407 ∧ (∃ m408 : Nat, (∃ R409 : RF, ((qC I m408 R409 ∧ b407 < nF I 39 ∧ FOk 40 (nF I 39) (lv7 (I 27)) (vup (vup (VF I 39) 0 b407 (I 40 (x1).toNatClampNeg)) 1 b407 x5) (I 39 9)) ∧ (∀ I410 : Nat → Nat → Int32, (fr Scr I I410) → (if x3 < (sFrom (nF I 39) (lv7 (I 27)) R409 (VF I 39) (I 39 9) b407 (I 40 (x1).toNatClampNeg) x5) then (mj_G Ω l false mX11_near d 0 0 Φ 0 0 28 ([some (.ref 0), some (.int x1), some (.int x2), some (.int (sFrom (nF I 39) (lv7 (I 27)) R409 (VF I 39) (I 39 9) b407 (I 40 (x1).toNatClampNeg) x5)), some (.int x5), some (.int (x5 + (1 : Int32))), none], [], (mk I410 J))) else (mj_G Ω l false mX11_near d 0 0 Φ 0 0 28 ([some (.ref 0), some (.int x1), some (.int x2), some (.int x3), some (.int x4), some (.int (x5 + (1 : Int32))), none], [], (mk I410 J))))))))))) else (mj_gd (mj_inB x1 8) ((isF3 39 ∧ mj_isk (mk I J)) ∧ ((okF I 39) ∧ (if (b2i (held (nF I 39) (VF I 39) (I 40 (x1).toNatClampNeg) x5)) = (0 : Int32) then (mj_gd (mj_inB x1 8) ((0 = 0 ∧ mj_isk (mk I J)) ∧ (∃ b412 : Nat, x1 = nI b412 ∧ (∃ m413 : Nat, (∃ R414 : RF, ((qC I m413 R414 ∧ b412 < nF I 39 ∧ FOk 40 (nF I 39) (lv7 (I 27)) (vup (vup (VF I 39) 0 b412 (I 40 (x1).toNatClampNeg)) 1 b412 x5) (I 39 9)) ∧ (∀ I415 : Nat → Nat → Int32, (fr Scr I I415) → (if x3 < (sFrom (nF I 39) (lv7 (I 27)) R414 (VF I 39) (I 39 9) b412 (I 40 (x1).toNatClampNeg) x5) then (mj_G Ω l false mX11_near d 0 0 Φ 0 0 28 ([some (.ref 0), some (.int x1), some (.int x2), some (.int (sFrom (nF I 39) (lv7 (I 27)) R414 (VF I 39) (I 39 9) b412 (I 40 (x1).toNatClampNeg) x5)), some (.int x5), some (.int (x5 + (1 : Int32))), none], [], (mk I415 J))) else (mj_G Ω l false mX11_near d 0 0 Φ 0 0 28 ([some (.ref 0), some (.int x1), some (.int x2), some (.int x3), some (.int x4), some (.int (x5 + (1 : Int32))), none], [], (mk I415 J))))))))))) else (mj_G Ω l false mX11_near d 0 0 Φ 0 0 28 ([some (.ref 0), some (.int x1), some (.int x2), some (.int x3), some (.int x4), some (.int (x5 + (1 : Int32))), none], [], (mk I J)))))))))))) :
    mj_G Ω l false mX11_near d 0 0 Φ 0 0 28 ([some (.ref 0), some (.int x1), some (.int x2), some (.int x3), some (.int x4), some (.int x5), none], [], mk I J) := mj_blk (μ := mX11_near) (P := pX11_near_28) (cut := cutX11_near) (cs := csX11_near) dX11_near_28 csX11_near_ok hd 47 28 _ h
def tX11_near : mj_PT := fun as M Φ => match as with
  | [.ref this, .int b, .int w] => ((this = 0 ∧ mj_isk M) ∧ (∃ m : Nat, (∃ R : RF, ((qC M.2.2.1 m R) ∧ (∀ I1 : Nat → Nat → Int32, (fr Scr M.2.2.1 I1) → Φ (some (.int (nearR (nF M.2.2.1 39) (lv7 (M.2.2.1 27)) R (VF M.2.2.1 39) (M.2.2.1 39 9) b w))) (M.1, M.2.1, I1, M.2.2.2))))))
  | _ => False
set_option maxHeartbeats 8000000 in
theorem mnX11_near {Ω : mj_Om} {l : Launch} {d : Nat} {Φ : Option Value → mj_M → Prop} (hd : 7 ≤ d) (b : Int32) (w : Int32) (m : Nat) (R : RF) (I : Nat → Nat → Int32) (J : Nat → Nat → Int64) (hp : qC I m R) (h : ∀ I1 : Nat → Nat → Int32, (fr Scr I I1) → Φ (some (.int (nearR (nF I 39) (lv7 (I 27)) R (VF I 39) (I 39 9) b w))) (mk I1 J)) : mj_Met Ω l false mX11_near d 0 0 [.ref 0, .int b, .int w] (mk I J) Φ := by
  refine inX11_near hd b w I J ?_
  obtain ⟨⟨hc, hn⟩, hR, hFF⟩ := id hp
  have hH : ¬ (okBN (nF I 39) b ∧ (w = 0 ∨ w = 1)) → Φ (some (.int (-1000000))) (mk I J) := fun q => by
    have := h I fr_rf
    unfold nearR at this
    rwa [cif_f q] at this
  by_cases hb0 : b < 0
  · rw [if_pos hb0]; exact hH (fun w => absurd hb0 (Int32.not_lt.mpr w.1.1))
  rw [if_neg hb0, hc]
  by_cases hb1 : b < nI (nF I 39)
  case neg => rw [if_neg hb1]; exact hH (fun w => hb1 w.1.2)
  rw [if_pos hb1]
  obtain ⟨k, hk, rfl⟩ := okB_of hb0 hb1 hn
  have hF := hFF (by omega)
  have hok := okBN_n hk hn
  have l0 := hF.1.1
  have hcl0 : (lv7 (I 27) 0).toNatClampNeg = (lv7 (I 27) 0).toInt.toNat := rfl
  have hbk := hF.2.2 k hk
  have key : ∀ (j v : Nat) (x3 x4 : Int32) (I' : Nat → Nat → Int32), v + j = 20 → bC (bstN (fun v => nI v = VF I 39 1 k ∨ ¬ held (nF I 39) (VF I 39) (VF I 39 0 k) (nI v)) (fun v => sFrom (nF I 39) (lv7 (I 27)) R (VF I 39) (I 39 9) k (VF I 39 0 k) (nI v)) v) x3 x4 → fr Scr I I' → (w = 0 ∨ w = 1) → mj_G Ω l false mX11_near d 0 0 Φ 0 0 28 ([some (.ref 0), some (.int (nI k)), some (.int w), some (.int x3), some (.int x4), some (.int (nI v)), none], [], mk I' J) := by
    intro j
    induction j with
    | zero =>
      intro v x3 x4 I' hv hb hfr hw
      refine bX11_near_28 hd (nI k) w x3 x4 (nI v) I' J ?_
      obtain ⟨q1, q2, q3, q4, q5⟩ := qC_q hp hfr
      rw [if_pos (show (19 : Int32) < nI v by rw [show (19 : Int32) = nI 19 from rfl, jn_lt (by omega) (by omega)]; omega)]
      have h' := h I' hfr
      unfold nearR at h'
      rw [cif_t ⟨hok, hw⟩, jn_cl (by omega)] at h'
      rw [show v = 20 by omega] at hb
      rw [bC_r hb] at h'
      split
      · rename_i z; rw [if_pos z] at h'; exact h'
      · rename_i z; rw [if_neg z] at h'; exact h'
    | succ j ih =>
      intro v x3 x4 I' hv hb hfr hw
      refine bX11_near_28 hd (nI k) w x3 x4 (nI v) I' J ?_
      obtain ⟨q1, q2, q3, q4, q5⟩ := qC_q hp hfr
      rw [if_neg (show ¬ (19 : Int32) < nI v by rw [show (19 : Int32) = nI 19 from rfl, jn_lt (by omega) (by omega)]; omega)]
      simp (disch := omega) only [jn_in, jn_cl, gd_dec, jn_succ]
      rw [← VF_0 (I := I') (f := 39) (b := k) (by omega), ← VF_1 (I := I') (f := 39) (b := k) (by omega), q3, q2]
      have hFx : FOk 40 (nF I 39) (lv7 (I 27)) (vup (vup (VF I 39) 0 k (VF I 39 0 k)) 1 k (nI v)) (I 39 9) := FOk_mv hF hbk.1 (by rw [jn_toInt (by omega)]; have := hF.2.1; omega)
      have hsb := sFrom_b (R := R) hn hk hFx
      have sc : (nI v = VF I 39 1 k ∨ ¬ held (nF I 39) (VF I 39) (VF I 39 0 k) (nI v)) → ∀ I2 : Nat → Nat → Int32, fr Scr I' I2 → (if x3 < sFrom (nF I 39) (lv7 (I 27)) R (VF I 39) (I 39 9) k (VF I 39 0 k) (nI v) then mj_G Ω l false mX11_near d 0 0 Φ 0 0 28 ([some (.ref 0), some (.int (nI k)), some (.int w), some (.int (sFrom (nF I 39) (lv7 (I 27)) R (VF I 39) (I 39 9) k (VF I 39 0 k) (nI v))), some (.int (nI v)), some (.int (nI (v + 1))), none], [], mk I2 J) else mj_G Ω l false mX11_near d 0 0 Φ 0 0 28 ([some (.ref 0), some (.int (nI k)), some (.int w), some (.int x3), some (.int x4), some (.int (nI (v + 1))), none], [], mk I2 J)) := by
        intro ho I2 h2
        by_cases z : x3 < sFrom (nF I 39) (lv7 (I 27)) R (VF I 39) (I 39 9) k (VF I 39 0 k) (nI v)
        · rw [if_pos z]
          exact ih (v + 1) _ _ I2 (by omega) (bC_y1 hb ho z) (fr_tr hfr h2) hw
        · rw [if_neg z]
          exact ih (v + 1) _ _ I2 (by omega) (bC_y0 hb hsb.1 z) (fr_tr hfr h2) hw
      by_cases y0 : nI v = VF I 39 1 k
      · rw [if_pos y0]
        refine ⟨⟨by trivial, mj_isk_mk _ _⟩, k, rfl, m, R, ⟨q1, by omega, by rw [q4, q5]; exact hFx⟩, fun I2 h2 => ?_⟩
        rw [q4, q5]
        exact sc (Or.inl y0) I2 h2
      · rw [if_neg y0]
        refine ⟨⟨Or.inl rfl, mj_isk_mk _ _⟩, q1.1, ?_⟩
        split
        · rename_i y1
          rw [b2i_e0] at y1
          refine ⟨⟨by trivial, mj_isk_mk _ _⟩, k, rfl, m, R, ⟨q1, by omega, by rw [q4, q5]; exact hFx⟩, fun I2 h2 => ?_⟩
          rw [q4, q5]
          exact sc (Or.inr y1) I2 h2
        · rename_i y1
          rw [b2i_e0] at y1
          exact ih (v + 1) _ _ I' (by omega) (bC_n hb (fun z => z.elim y0 y1)) hfr hw
  by_cases w0 : w = 0
  · rw [if_pos w0]
    exact key (20) 0 _ _ I (by omega) ⟨rfl, rfl⟩ fr_rf (Or.inl w0)
  rw [if_neg w0]
  by_cases w1 : w = 1
  · rw [if_pos w1]
    exact key (20) 0 _ _ I (by omega) ⟨rfl, rfl⟩ fr_rf (Or.inr w1)
  rw [if_neg w1]
  exact hH (fun z => z.2.elim w0 w1)
theorem sdX11_near : mj_Sd mX11_near 7 tX11_near := by
  intro Ω l d hd as M Φ h
  unfold tX11_near at h
  split at h
  · rename_i z_this b w
    obtain ⟨⟨rfl, hM⟩, m, R, hp, h⟩ := h
    rw [mj_isk_of hM]
    exact mnX11_near hd b w m R _ _ hp (by
      rw [mj_isk_of hM] at h
      exact h)
  · exact h.elim
def csX11_row : List (Nat × Nat × Nat × mj_PT) := [(160, 0, 2, mj_rcv 11 tX11_isBoat), (218, 0, 3, mj_rcv 3 tX3_isHeld), (257, 0, 4, mj_rcv 11 tX11_scoreFrom)]
theorem csX11_row_ok : mj_Cs mX11_row 7 csX11_row := (mj_CsV (D' := 1) (ci := 11) (q := (RX11, TX11, 18)) sdX11_isBoat (Nat.le_of_ble_eq_true rfl) fX11_isBoat rfl rfl iX11_isBoat vX11_isBoat (by decide +kernel) l11_160 (mj_CsV (D' := 1) (ci := 3) (q := (RX3, TX3, 10)) sdX3_isHeld (Nat.le_of_ble_eq_true rfl) fX3_isHeld rfl rfl iX3_isHeld vX3_isHeld (by decide +kernel) l11_218 (mj_CsV (D' := 6) (ci := 11) (q := (RX11, TX11, 18)) sdX11_scoreFrom (Nat.le_of_ble_eq_true rfl) fX11_scoreFrom rfl rfl iX11_scoreFrom vX11_scoreFrom (by decide +kernel) l11_257 mj_Cs0)))
def cutX11_row : List (Nat × List Bool) := []
set_option maxRecDepth 100000 in
set_option maxHeartbeats 4000000 in
theorem inX11_row {Ω : mj_Om} {l : Launch} {d : Nat} {Φ : Option Value → mj_M → Prop} (hd : 7 ≤ d) (b : Int32) (y : Int32) (I : Nat → Nat → Int32) (J : Nat → Nat → Int64)
    (h : ((if b < (0 : Int32) then (Φ (some (.int (-1000000 : Int32))) (mk I J)) else (if b < (I 39 8) then (if y < (1 : Int32) then (Φ (some (.int (-1000000 : Int32))) (mk I J)) else (if (9 : Int32) < y then (Φ (some (.int (-1000000 : Int32))) (mk I J)) else (mj_gd (mj_inB b 8) (mj_gd (mj_inB b 8) ((isF3 39 ∧ mj_isk (mk I J)) ∧ ((okF I 39) ∧ (if (b2i (held (nF I 39) (VF I 39) (I 40 (b).toNatClampNeg) ((I 41 (b).toNatClampNeg) + y))) = (0 : Int32) then (mj_gd (mj_inB b 8) ((0 = 0 ∧ mj_isk (mk I J)) ∧ (∃ b422 : Nat, b = nI b422 ∧ (∃ m423 : Nat, (∃ R424 : RF, ((qC I m423 R424 ∧ b422 < nF I 39 ∧ FOk 40 (nF I 39) (lv7 (I 27)) (vup (vup (VF I 39) 0 b422 (I 40 (b).toNatClampNeg)) 1 b422 ((I 41 (b).toNatClampNeg) + y)) (I 39 9)) ∧ (∀ I425 : Nat → Nat → Int32, (fr Scr I I425) → (Φ (some (.int (sFrom (nF I 39) (lv7 (I 27)) R424 (VF I 39) (I 39 9) b422 (I 40 (b).toNatClampNeg) ((I 41 (b).toNatClampNeg) + y)))) (mk I425 J))))))))) else (Φ (some (.int (-1000000 : Int32))) (mk I J))))))))) else (Φ (some (.int (-1000000 : Int32))) (mk I J)))))) :
    mj_Met Ω l false mX11_row d 0 0 [.ref 0, .int b, .int y] (mk I J) Φ := mj_entry (by decide) rfl (fun h => (by cases h)) (Nat.le_of_ble_eq_true rfl) (mj_blk (μ := mX11_row) (P := pX11_row) (cut := cutX11_row) (cs := csX11_row) dX11_row csX11_row_ok hd 43 0 _ h)
def tX11_row : mj_PT := fun as M Φ => match as with
  | [.ref this, .int b, .int y] => ((this = 0 ∧ mj_isk M) ∧ (∃ m : Nat, (∃ R : RF, ((qC M.2.2.1 m R) ∧ (∀ I1 : Nat → Nat → Int32, (fr Scr M.2.2.1 I1) → Φ (some (.int (rowR (nF M.2.2.1 39) (lv7 (M.2.2.1 27)) R (VF M.2.2.1 39) (M.2.2.1 39 9) b y))) (M.1, M.2.1, I1, M.2.2.2))))))
  | _ => False
set_option maxHeartbeats 4000000 in
theorem mnX11_row {Ω : mj_Om} {l : Launch} {d : Nat} {Φ : Option Value → mj_M → Prop} (hd : 7 ≤ d) (b : Int32) (y : Int32) (m : Nat) (R : RF) (I : Nat → Nat → Int32) (J : Nat → Nat → Int64) (hp : qC I m R) (h : ∀ I1 : Nat → Nat → Int32, (fr Scr I I1) → Φ (some (.int (rowR (nF I 39) (lv7 (I 27)) R (VF I 39) (I 39 9) b y))) (mk I1 J)) : mj_Met Ω l false mX11_row d 0 0 [.ref 0, .int b, .int y] (mk I J) Φ := by
  refine inX11_row hd b y I J ?_
  obtain ⟨⟨hc, hn⟩, hR, hFF⟩ := id hp
  have hH : ¬ (okBN (nF I 39) b ∧ (¬ y < 1 ∧ ¬ 9 < y) ∧ ¬ held (nF I 39) (VF I 39) (VF I 39 0 b.toNatClampNeg) (VF I 39 1 b.toNatClampNeg + y)) → Φ (some (.int (-1000000))) (mk I J) := fun q => by
    have := h I fr_rf
    unfold rowR at this
    rwa [cif_f q] at this
  by_cases hb0 : b < 0
  · rw [if_pos hb0]; exact hH (fun w => absurd hb0 (Int32.not_lt.mpr w.1.1))
  rw [if_neg hb0, hc]
  by_cases hb1 : b < nI (nF I 39)
  case neg => rw [if_neg hb1]; exact hH (fun w => hb1 w.1.2)
  rw [if_pos hb1]
  obtain ⟨k, hk, rfl⟩ := okB_of hb0 hb1 hn
  have hF := hFF (by omega)
  have hok := okBN_n hk hn
  by_cases y0 : y < 1
  · rw [if_pos y0]; exact hH (fun z => z.2.1.1 y0)
  rw [if_neg y0]
  by_cases y1 : 9 < y
  · rw [if_pos y1]; exact hH (fun z => z.2.1.2 y1)
  rw [if_neg y1]
  have hbk := hF.2.2 k hk
  have i9 : (9 : Int32).toInt = 9 := rfl
  have hy : 1 ≤ y.toInt ∧ y.toInt ≤ 9 := by
    rw [Int32.lt_iff_toInt_lt, i_1] at y0
    rw [Int32.lt_iff_toInt_lt, i9] at y1
    omega
  simp (disch := omega) only [jn_in, jn_cl, gd_dec]
  rw [jn_cl (by omega)] at hH
  rw [← VF_0 (I := I) (f := 39) hk, ← VF_1 (I := I) (f := 39) hk]
  have ey := i_add (x := VF I 39 1 k) (y := y) (by have := hbk.2.1; have := hF.2.1; have := hF.1.2.2.2.2.2.1; omega)
  have hFx : FOk 40 (nF I 39) (lv7 (I 27)) (vup (vup (VF I 39) 0 k (VF I 39 0 k)) 1 k (VF I 39 1 k + y)) (I 39 9) := FOk_mv hF hbk.1 (by have := hbk.2.1; omega)
  refine ⟨⟨Or.inl rfl, mj_isk_mk _ _⟩, ⟨hc, hn⟩, ?_⟩
  split
  · rename_i z
    rw [b2i_e0] at z
    refine ⟨⟨by trivial, mj_isk_mk _ _⟩, k, rfl, m, R, ⟨hp, hk, hFx⟩, fun I2 h2 => ?_⟩
    have h' := h I2 h2
    unfold rowR at h'
    rw [jn_cl (by omega), cif_t ⟨hok, ⟨y0, y1⟩, z⟩] at h'
    exact h'
  · rename_i z
    rw [b2i_e0] at z
    exact hH (fun q => z q.2.2)
theorem sdX11_row : mj_Sd mX11_row 7 tX11_row := by
  intro Ω l d hd as M Φ h
  unfold tX11_row at h
  split at h
  · rename_i z_this b y
    obtain ⟨⟨rfl, hM⟩, m, R, hp, h⟩ := h
    rw [mj_isk_of hM]
    exact mnX11_row hd b y m R _ _ hp (by
      rw [mj_isk_of hM] at h
      exact h)
  · exact h.elim
theorem aft_s {n : Nat} {C : Nat → Int32} {R : RF} {F : Vw} {s : Int32} : ∀ k, aftV n C R (passV n C R F s) (s + 1) k = aftV n C R F s (k + 1) := by
  intro k
  induction k with
  | zero => show passV n C R F s = passV n C R F (s + nI 0); rw [show nI 0 = 0 from rfl, Int32.add_zero]
  | succ k ih =>
    show passV n C R (aftV n C R (passV n C R F s) (s + 1) k) (s + 1 + nI k) = passV n C R (aftV n C R F s (k + 1)) (s + nI (k + 1))
    rw [ih, Int32.add_assoc, show (1 : Int32) + nI k = nI (k + 1) by rw [Int32.add_comm]; exact jn_succ k]
theorem FOk_aft {u : Int} {n : Nat} {C : Nat → Int32} {R : RF} {F : Vw} {s : Int32} (hn : n ≤ 8) (h : FOk u n C F s) : ∀ k : Nat, s.toInt + k ≤ (C 5).toInt → FOk u n C (aftV n C R F s k) (s + nI k) ∧ (s + nI k).toInt = s.toInt + k := by
  have l5 := h.1.2.2.2.2.2.1
  intro k
  induction k with
  | zero => intro _; rw [show nI 0 = 0 from rfl, Int32.add_zero]; exact ⟨h, by omega⟩
  | succ k ih =>
    intro hk
    obtain ⟨h1, h2⟩ := ih (by omega)
    have e : s + nI (k + 1) = s + nI k + 1 := by rw [Int32.add_assoc, jn_succ]
    rw [e]
    exact ⟨FOk_pass hn h1 (by omega), by rw [i_add1 (by omega)]; omega⟩
def csX11_keeps : List (Nat × Nat × Nat × mj_PT) := [(134, 0, 2, mj_rcv 3 tX3_copyFrom), (160, 0, 2, mj_rcv 11 tX11_isBoat), (228, 0, 3, mj_rcv 4 tX4_passSecond), (243, 0, 2, mj_rcv 1 tX1_secondsLeft), (278, 0, 2, mj_rcv 3 tX3_isLeewardHeld)]
theorem csX11_keeps_ok : mj_Cs mX11_keeps 5 csX11_keeps := (mj_CsV (D' := 1) (ci := 3) (q := (RX3, TX3, 10)) sdX3_copyFrom (Nat.le_of_ble_eq_true rfl) fX3_copyFrom rfl rfl iX3_copyFrom vX3_copyFrom (by decide +kernel) l11_134 (mj_CsV (D' := 1) (ci := 11) (q := (RX11, TX11, 18)) sdX11_isBoat (Nat.le_of_ble_eq_true rfl) fX11_isBoat rfl rfl iX11_isBoat vX11_isBoat (by decide +kernel) l11_160 (mj_CsV (D' := 4) (ci := 4) (q := (RX4, TX4, 4)) sdX4_passSecond (Nat.le_of_ble_eq_true rfl) fX4_passSecond rfl rfl iX4_passSecond vX4_passSecond (by decide +kernel) l11_228 (mj_CsV (D' := 1) (ci := 1) (q := (RX1, TX1, 1)) sdX1_secondsLeft (Nat.le_of_ble_eq_true rfl) fX1_secondsLeft rfl rfl iX1_secondsLeft vX1_secondsLeft (by decide +kernel) l11_243 (mj_CsV (D' := 2) (ci := 3) (q := (RX3, TX3, 10)) sdX3_isLeewardHeld (Nat.le_of_ble_eq_true rfl) fX3_isLeewardHeld rfl rfl iX3_isLeewardHeld vX3_isLeewardHeld (by decide +kernel) l11_278 mj_Cs0)))))
def cutX11_keeps : List (Nat × List Bool) := [(35, [true, true, true, true])]
set_option maxRecDepth 100000 in
set_option maxHeartbeats 4000000 in
theorem inX11_keeps {Ω : mj_Om} {l : Launch} {d : Nat} {Φ : Option Value → mj_M → Prop} (hd : 5 ≤ d) (b : Int32) (I : Nat → Nat → Int32) (J : Nat → Nat → Int64)
    (h : ((if b < (0 : Int32) then (Φ (some (.int (-1 : Int32))) (mk I J)) else (if b < (I 39 8) then ((isFG 48 39 ∧ mj_isk (mk I J)) ∧ ((okF I 39) ∧ (∀ I437 : Nat → Nat → Int32, (okF I437 48 ∧ nF I437 48 = nF I 39 ∧ VF I437 48 = VF I 39 ∧ I437 48 9 = I 39 9 ∧ fr (fun c _ => 48 ≤ c ∧ c ≤ 48 + 8) I I437) → (mj_G Ω l false mX11_keeps d 0 0 Φ 0 0 35 ([some (.ref 0), some (.int b), some (.int ((I437 27 5) - (I437 39 9))), some (.int (0 : Int32))], [], (mk I437 J)))))) else (Φ (some (.int (-1 : Int32))) (mk I J)))))) :
    mj_Met Ω l false mX11_keeps d 0 0 [.ref 0, .int b] (mk I J) Φ := mj_entry (by decide) rfl (fun h => (by cases h)) (Nat.le_of_ble_eq_true rfl) (mj_blk (μ := mX11_keeps) (P := pX11_keeps) (cut := cutX11_keeps) (cs := csX11_keeps) dX11_keeps csX11_keeps_ok hd 41 0 _ h)
set_option maxRecDepth 100000 in
set_option maxHeartbeats 4000000 in
theorem bX11_keeps_35 {Ω : mj_Om} {l : Launch} {d : Nat} {Φ : Option Value → mj_M → Prop} (hd : 5 ≤ d) (x1 : Int32) (x2 : Int32) (x3 : Int32) (I : Nat → Nat → Int32) (J : Nat → Nat → Int64)
    (h : ((if x2 < x3 then (Φ (some (.int (-1 : Int32))) (mk I J)) else ((isF3 48 ∧ mj_isk (mk I J)) ∧ (∃ b439 : Nat, x1 = nI b439 ∧ ((okF I 48 ∧ b439 < nF I 48) ∧ (if (b2i (lee (nF I 48) (VF I 48) b439)) = (0 : Int32) then ((75 = 75 ∧ isCF 26 48 ∧ mj_isk (mk I J)) ∧ (∃ u442 : Int, (∃ m443 : Nat, (∃ R444 : RF, ((u442 ≤ 1000 ∧ FC u442 I 26 48 ∧ RuC I m443 R444) ∧ (∀ I445 : Nat → Nat → Int32, (VF I445 48 = passV (nF I 48) (lv7 (I (26 + 1))) R444 (VF I 48) (I 48 9) ∧ I445 48 9 = (I 48 9) + 1 ∧ fr (fun c k => (48 + 1 ≤ c ∧ c ≤ 48 + 8) ∨ (c = 48 ∧ k = 9) ∨ c = 10 ∨ (76 ≤ c ∧ c ≤ 78)) I I445) → (mj_G Ω l false mX11_keeps d 0 0 Φ 0 0 35 ([some (.ref 0), some (.int x1), some (.int x2), some (.int (x3 + (1 : Int32)))], [], (mk I445 J))))))))) else (Φ (some (.int x3)) (mk I J))))))))) :
    mj_G Ω l false mX11_keeps d 0 0 Φ 0 0 35 ([some (.ref 0), some (.int x1), some (.int x2), some (.int x3)], [], mk I J) := mj_blk (μ := mX11_keeps) (P := pX11_keeps) (cut := cutX11_keeps) (cs := csX11_keeps) dX11_keeps csX11_keeps_ok hd 41 35 _ h
def tX11_keeps : mj_PT := fun as M Φ => match as with
  | [.ref this, .int b] => ((this = 0 ∧ mj_isk M) ∧ (∃ m : Nat, (∃ R : RF, ((qC M.2.2.1 m R) ∧ (∀ I1 : Nat → Nat → Int32, (fr Scr M.2.2.1 I1) → Φ (some (.int (keepsR (nF M.2.2.1 39) (lv7 (M.2.2.1 27)) R (VF M.2.2.1 39) (M.2.2.1 39 9) b))) (M.1, M.2.1, I1, M.2.2.2))))))
  | _ => False
set_option maxHeartbeats 4000000 in
theorem mnX11_keeps {Ω : mj_Om} {l : Launch} {d : Nat} {Φ : Option Value → mj_M → Prop} (hd : 5 ≤ d) (b : Int32) (m : Nat) (R : RF) (I : Nat → Nat → Int32) (J : Nat → Nat → Int64) (hp : qC I m R) (h : ∀ I1 : Nat → Nat → Int32, (fr Scr I I1) → Φ (some (.int (keepsR (nF I 39) (lv7 (I 27)) R (VF I 39) (I 39 9) b))) (mk I1 J)) : mj_Met Ω l false mX11_keeps d 0 0 [.ref 0, .int b] (mk I J) Φ := by
  refine inX11_keeps hd b I J ?_
  obtain ⟨⟨hc, hn⟩, hR, hFF⟩ := id hp
  have hH : ¬ (okBN (nF I 39) b) → Φ (some (.int (-1))) (mk I J) := fun q => by
    have := h I fr_rf
    unfold keepsR at this
    rwa [cif_f q] at this
  by_cases hb0 : b < 0
  · rw [if_pos hb0]; exact hH (fun w => absurd hb0 (Int32.not_lt.mpr w.1))
  rw [if_neg hb0, hc]
  by_cases hb1 : b < nI (nF I 39)
  case neg => rw [if_neg hb1]; exact hH (fun w => hb1 w.2)
  rw [if_pos hb1]
  obtain ⟨k, hk, rfl⟩ := okB_of hb0 hb1 hn
  have hF := hFF (by omega)
  have hok := okBN_n hk hn
  refine ⟨⟨by unfold isFG; omega, mj_isk_mk _ _⟩, ⟨hc, hn⟩, fun A hA => ?_⟩
  obtain ⟨hFC, hRA, eC⟩ := tr48 hp (by omega) hA
  obtain ⟨h1, h2, h3, h4, h5⟩ := hA
  have l5 := hF.1.2.2.2.2.2.1
  have hs := hF.2.1
  have e5 : A 27 5 = lv7 (I 27) 5 := by rw [h5 27 5 (by (try dsimp only); omega), lv7_at (by decide)]
  have e9 : A 39 9 = I 39 9 := h5 39 9 (by (try dsimp only); omega)
  rw [e5, e9]
  have eL := i_sub (x := lv7 (I 27) 5) (y := I 39 9) (by omega)
  have hcl : (lv7 (I 27) 5 - I 39 9).toNatClampNeg = (lv7 (I 27) 5 - I 39 9).toInt.toNat := rfl
  unfold keepsR at h
  rw [cif_t hok, jn_cl (by omega)] at h
  have eLn : lv7 (I 27) 5 - I 39 9 = nI (lv7 (I 27) 5 - I 39 9).toNatClampNeg := jn_of (by rw [Int32.le_iff_toInt_le, i_0]; omega)
  generalize hL : lv7 (I 27) 5 - I 39 9 = L at *
  have key : ∀ (j g : Nat) (I' : Nat → Nat → Int32), g + j = L.toNatClampNeg + 1 → okF I' 48 → nF I' 48 = nF I 39 → VF I' 48 = aftV (nF I 39) (lv7 (I 27)) R (VF I 39) (I 39 9) g → I' 48 9 = I 39 9 + nI g → fr Scr I I' → (∀ I1, fr Scr I I1 → Φ (some (.int (fstN (fun q => lee (nF I 39) (aftV (nF I 39) (lv7 (I 27)) R (VF I 39) (I 39 9) q) k) g j))) (mk I1 J)) → mj_G Ω l false mX11_keeps d 0 0 Φ 0 0 35 ([some (.ref 0), some (.int (nI k)), some (.int L), some (.int (nI g))], [], mk I' J) := by
    intro j
    induction j with
    | zero =>
      intro g I' hg o2 n2 V2 s2 hfr h
      refine bX11_keeps_35 hd (nI k) L (nI g) I' J ?_
      rw [if_pos (by rw [eLn, jn_lt (by omega) (by omega)]; omega)]
      exact h I' hfr
    | succ j ih =>
      intro g I' hg o2 n2 V2 s2 hfr h
      refine bX11_keeps_35 hd (nI k) L (nI g) I' J ?_
      rw [if_neg (by rw [eLn, jn_lt (by omega) (by omega)]; omega), jn_succ]
      refine ⟨⟨Or.inr (Or.inl rfl), mj_isk_mk _ _⟩, k, rfl, ⟨o2, by omega⟩, ?_⟩
      rw [n2, V2]
      obtain ⟨hF2, hs2⟩ := FOk_aft (R := R) hn hF g (by omega)
      have hC2 : lv7 (I' (26 + 1)) = lv7 (I 27) := lv7_fr (fun q => hfr 27 q (by unfold Scr; omega))
      unfold fstN at h
      split
      · rename_i z
        rw [b2i_e0] at z
        simp only [cif_f z] at h
        refine ⟨⟨by trivial, by unfold isCF; omega, mj_isk_mk _ _⟩, 19, m, R, ⟨by decide, ⟨o2, by rw [n2, hC2, V2, s2]; exact hF2⟩, RuC_fr hR (fun c q q1 q2 => hfr c q (by unfold Scr; omega))⟩, fun D hD => ?_⟩
        obtain ⟨d1, d2, d3⟩ := hD
        rw [hC2, s2] at d1
        refine ih (g + 1) D (by omega) (fr_okF d3 (by (try dsimp only); omega) o2) (by rw [(fr_n d3 (f := 48) (by (try dsimp only); omega)).2]; exact n2) d1 (by rw [d2, s2, Int32.add_assoc, jn_succ]) (fun c q w => ?_) h
        rw [d3 c q (fun y => w (by (try dsimp only at y); unfold Scr; omega)), hfr c q w]
      · rename_i z
        rw [b2i_e0] at z
        simp only [cif_t (Classical.not_not.mp z)] at h
        exact h I' hfr
  exact key (L.toNatClampNeg + 1) 0 A (by omega) h1 h2 h3 (by rw [h4, show nI 0 = 0 from rfl, Int32.add_zero]) (fr_mo h5 (fun c q w => by (try dsimp only at w); unfold Scr; omega)) h
theorem sdX11_keeps : mj_Sd mX11_keeps 5 tX11_keeps := by
  intro Ω l d hd as M Φ h
  unfold tX11_keeps at h
  split at h
  · rename_i z_this b
    obtain ⟨⟨rfl, hM⟩, m, R, hp, h⟩ := h
    rw [mj_isk_of hM]
    exact mnX11_keeps hd b m R _ _ hp (by
      rw [mj_isk_of hM] at h
      exact h)
  · exact h.elim
