/-! ===== the class's seconds: Mover (by program, wip/whole/pd.py) ===== -/
theorem ord_ins {i : Nat} {B : Nat → Int32} {p : Nat} (hp : p = cnt (fun j => ¬ B i < B j) i) {k : Nat} (hk : k < i + 1) : ordN (i + 1) B k = if k < p then ordN i B k else if k = p then i else ordN i B (k - 1) := by
  have hle := cnt_le (fun j => ¬ B i < B j) i
  by_cases h1 : k < p
  · rw [if_pos h1]
    obtain ⟨g1, g2⟩ := ordN_sp (B := B) (show k < i by omega)
    have h2 : ¬ B i < B (ordN i B k) := (rk_nD g1).mpr (by omega)
    exact ordN_eq (by omega) (by rw [rk_sn g1 h2, g2])
  · rw [if_neg h1]
    by_cases h2 : k = p
    · rw [if_pos h2]
      exact ordN_eq (by omega) (by rw [rk_nn, h2, hp])
    · rw [if_neg h2]
      obtain ⟨g1, g2⟩ := ordN_sp (B := B) (show k - 1 < i by omega)
      have h3 : B i < B (ordN i B (k - 1)) := Classical.not_not.mp (fun q => by
        have := (rk_nD g1).mp q
        omega)
      exact ordN_eq (by omega) (by rw [rk_sy g1 h3, g2]; omega)
theorem ord_ex {i p : Nat} {B : Nat → Int32} (hp : p ≤ i) (h1 : ∀ k, p ≤ k → k < i → B i < B (ordN i B k)) (h2 : p = 0 ∨ ¬ B i < B (ordN i B (p - 1))) : p = cnt (fun j => ¬ B i < B j) i := by
  have hle := cnt_le (fun j => ¬ B i < B j) i
  have a1 : cnt (fun j => ¬ B i < B j) i ≤ p := by
    rcases Nat.lt_or_ge p i with q | q
    · obtain ⟨g1, g2⟩ := ordN_sp (B := B) q
      have := h1 p (Nat.le_refl _) q
      rcases Nat.lt_or_ge p (cnt (fun j => ¬ B i < B j) i) with z | z
      · exact absurd this ((rk_nD g1).mpr (by omega))
      · exact z
    · omega
  rcases h2 with q | q
  · omega
  · rcases Nat.eq_zero_or_pos p with z | z
    · omega
    · obtain ⟨g1, g2⟩ := ordN_sp (B := B) (show p - 1 < i by omega)
      have := (rk_nD g1).mp q
      omega
theorem sailV_c {n b : Nat} {Sh Sh' : Nat → Int32} {F : Vw} (h : Sh b = Sh' b) : sailV n Sh F b = sailV n Sh' F b := by unfold sailV; rw [h]
theorem goN_c {n : Nat} {Sh Sh' B B' : Nat → Int32} (h : ∀ b, b < n → Sh b = Sh' b) (hB : ∀ b, b < n → B b = B' b) (F : Vw) : ∀ k, k ≤ n → goN n Sh B k F = goN n Sh' B' k F := by
  intro k
  induction k with
  | zero => intro _; rfl
  | succ k ih =>
    intro hk
    rw [goN, goN, ih (by omega), ordN_c hB (by omega)]
    exact sailV_c (h _ (ordN_sp (B := B') (by omega)).1)
theorem moveV_c {n : Nat} {C Sh Sh' B B' : Nat → Int32} (h : ∀ b, b < n → Sh b = Sh' b) (hB : ∀ b, b < n → B b = B' b) (F : Vw) (s : Int32) : moveV n C Sh B F s = moveV n C Sh' B' F s := by
  unfold moveV
  rw [goN_c h hB F n (Nat.le_refl _)]
theorem comes_i {e g : Int32} {A B : Prop} (he : 0 ≤ e.toInt) : (0 < e ↔ ¬ e = 0) := by
  rw [Int32.lt_iff_toInt_lt, ← Int32.toInt_inj, i_0]
  omega
def csX4_noteEarly : List (Nat × Nat × Nat × mj_PT) := []
theorem csX4_noteEarly_ok : mj_Cs mX4_noteEarly 1 csX4_noteEarly := mj_Cs0
def cutX4_noteEarly : List (Nat × List Bool) := [(2, [true, true])]
set_option maxRecDepth 100000 in
set_option maxHeartbeats 4000000 in
theorem inX4_noteEarly {Ω : mj_Om} {l : Launch} {d : Nat} {Φ : Option Value → mj_M → Prop} (hd : 1 ≤ d) (f : Nat) (hf : isF3 f) (I : Nat → Nat → Int32) (J : Nat → Nat → Int64)
    (h : ((mj_G Ω l false mX4_noteEarly d 0 0 Φ 0 0 2 ([some (.ref f), some (.int (0 : Int32))], [], (mk I J))))) :
    mj_Met Ω l false mX4_noteEarly d 0 0 [.ref f] (mk I J) Φ := by
  rcases hf with rfl | rfl | rfl <;> exact mj_entry (by decide) rfl (fun h => (by cases h)) (Nat.le_of_ble_eq_true rfl) (mj_blk (μ := mX4_noteEarly) (P := pX4_noteEarly) (cut := cutX4_noteEarly) (cs := csX4_noteEarly) dX4_noteEarly csX4_noteEarly_ok hd 20 0 _ h)
set_option maxRecDepth 100000 in
set_option maxHeartbeats 4000000 in
theorem bX4_noteEarly_2 {Ω : mj_Om} {l : Launch} {d : Nat} {Φ : Option Value → mj_M → Prop} (hd : 1 ≤ d) (f : Nat) (hf : isF3 f) (x1 : Int32) (I : Nat → Nat → Int32) (J : Nat → Nat → Int64)
    (h : ((if x1 < (I f 8) then (mj_gd (mj_inB x1 8) (if (I (f + 2) (x1).toNatClampNeg) < (0 : Int32) then (mj_gd (mj_inB x1 8) (mj_G Ω l false mX4_noteEarly d 0 0 Φ 0 0 2 ([some (.ref f), some (.int (x1 + (1 : Int32)))], [], (mk (mj_ui I (f + 8) (x1).toNatClampNeg (1 : Int32)) J)))) else (mj_G Ω l false mX4_noteEarly d 0 0 Φ 0 0 2 ([some (.ref f), some (.int (x1 + (1 : Int32)))], [], (mk I J))))) else (Φ none (mk I J))))) :
    mj_G Ω l false mX4_noteEarly d 0 0 Φ 0 0 2 ([some (.ref f), some (.int x1)], [], mk I J) := by
  rcases hf with rfl | rfl | rfl <;> exact mj_blk (μ := mX4_noteEarly) (P := pX4_noteEarly) (cut := cutX4_noteEarly) (cs := csX4_noteEarly) dX4_noteEarly csX4_noteEarly_ok hd 20 2 _ h
def tX4_noteEarly : mj_PT := fun as M Φ => match as with
  | [.ref f_] => ((isF3 f_ ∧ mj_isk M) ∧ ((okF M.2.2.1 f_) ∧ (∀ I1 : Nat → Nat → Int32, (VF I1 f_ = earlyV (nF M.2.2.1 f_) (VF M.2.2.1 f_) ∧ fr (fun c _ => c = f_ + 8) M.2.2.1 I1) → Φ none (M.1, M.2.1, I1, M.2.2.2))))
  | _ => False
theorem mnX4_noteEarly {Ω : mj_Om} {l : Launch} {d : Nat} {Φ : Option Value → mj_M → Prop} (hd : 1 ≤ d) (f : Nat) (hf : isF3 f) (I : Nat → Nat → Int32) (J : Nat → Nat → Int64) (hp : okF I f) (h : ∀ I1 : Nat → Nat → Int32, (VF I1 f = earlyV (nF I f) (VF I f) ∧ fr (fun c _ => c = f + 8) I I1) → Φ none (mk I1 J)) : mj_Met Ω l false mX4_noteEarly d 0 0 [.ref f] (mk I J) Φ := by
  refine inX4_noteEarly hd f hf I J ?_
  obtain ⟨hc, hn⟩ := hp
  refine lp_inv (σ := Nat → Nat → Int32) (n := nF I f) (G := fun i I' => mj_G Ω l false mX4_noteEarly d 0 0 Φ 0 0 2 ([some (.ref f), some (.int (nI i))], [], mk I' J)) (fun i I' => VF I' f = earlyV i (VF I f) ∧ fr (fun c _ => c = f + 8) I I') (fun i I' hi hI hk => ?_) (fun I' hI => ?_) (nF I f) 0 I (by omega) ⟨(earlyV_0 _).symm, fr_rf⟩
  · refine bX4_noteEarly_2 hd f hf (nI i) I' J ?_
    obtain ⟨hV, hfr⟩ := hI
    obtain ⟨e8, en⟩ := fr_n hfr (f := f) (by (try dsimp only); omega)
    rw [hc] at e8
    simp (disch := omega) only [hc, jn_lt, jn_le, jn_eq, jn_cl, jn_in, jn_succ, gd_dec, if_pos, if_neg, n6_0, n6_1, n6_2, n6_3, n6_4, n6_5, e8]
    have e1 := VF_1 (I := I') (f := f) (b := i) (by omega)
    rw [hV, earlyV_1] at e1
    rw [← e1]
    split
    · rename_i q; exact hk _ ⟨by rw [VFu_7 (by omega), hV, earlyV_s, if_pos q], fr_ui hfr rfl⟩
    · rename_i q; exact hk _ ⟨by rw [hV, earlyV_s, if_neg q], hfr⟩
  · refine bX4_noteEarly_2 hd f hf (nI (nF I f)) I' J ?_
    obtain ⟨e8, en⟩ := fr_n hI.2 (f := f) (by (try dsimp only); omega)
    rw [hc] at e8
    simp (disch := omega) only [hc, jn_lt, jn_le, jn_eq, jn_cl, jn_in, jn_succ, gd_dec, if_pos, if_neg, n6_0, n6_1, n6_2, n6_3, n6_4, n6_5, e8]
    exact h I' hI
theorem sdX4_noteEarly : mj_Sd mX4_noteEarly 1 tX4_noteEarly := by
  intro Ω l d hd as M Φ h
  unfold tX4_noteEarly at h
  split at h
  · rename_i f
    obtain ⟨⟨hf, hM⟩, hp, h⟩ := h
    rw [mj_isk_of hM]
    exact mnX4_noteEarly hd f hf _ _ hp (by
      rw [mj_isk_of hM] at h
      exact h)
  · exact h.elim
def csX4_driftAll : List (Nat × Nat × Nat × mj_PT) := [(123, 0, 3, mj_rcv 3 tX3_isHeld)]
theorem csX4_driftAll_ok : mj_Cs mX4_driftAll 2 csX4_driftAll := (mj_CsV (D' := 1) (ci := 3) (q := (RX3, TX3, 10)) sdX3_isHeld (Nat.le_of_ble_eq_true rfl) fX3_isHeld rfl rfl iX3_isHeld vX3_isHeld (by decide +kernel) l4_123 mj_Cs0)
def cutX4_driftAll : List (Nat × List Bool) := [(9, [true, true, true, false]), (15, [true, true, true, true])]
set_option maxRecDepth 100000 in
set_option maxHeartbeats 4000000 in
theorem inX4_driftAll {Ω : mj_Om} {l : Launch} {d : Nat} {Φ : Option Value → mj_M → Prop} (hd : 2 ≤ d) (c f : Nat) (hf : isCF c f) (I : Nat → Nat → Int32) (J : Nat → Nat → Int64)
    (h : ((mj_G Ω l false mX4_driftAll d 0 0 Φ 0 0 9 ([some (.ref c), some (.ref f), some (.int ((I (c + 1) 0) - (2 : Int32))), none], [], (mk I J))))) :
    mj_Met Ω l false mX4_driftAll d 0 0 [.ref c, .ref f] (mk I J) Φ := by
  rcases hf with ⟨rfl, rfl⟩ | ⟨rfl, rfl⟩ | ⟨rfl, rfl⟩ | ⟨rfl, rfl⟩ <;> exact mj_entry (by decide) rfl (fun h => (by cases h)) (Nat.le_of_ble_eq_true rfl) (mj_blk (μ := mX4_driftAll) (P := pX4_driftAll) (cut := cutX4_driftAll) (cs := csX4_driftAll) dX4_driftAll csX4_driftAll_ok hd 44 0 _ h)
set_option maxRecDepth 100000 in
set_option maxHeartbeats 4000000 in
theorem bX4_driftAll_9 {Ω : mj_Om} {l : Launch} {d : Nat} {Φ : Option Value → mj_M → Prop} (hd : 2 ≤ d) (c f : Nat) (hf : isCF c f) (x2 : Int32) (I : Nat → Nat → Int32) (J : Nat → Nat → Int64)
    (h : ((if x2 < (0 : Int32) then (Φ none (mk I J)) else (mj_G Ω l false mX4_driftAll d 0 0 Φ 0 0 15 ([some (.ref c), some (.ref f), some (.int x2), some (.int (0 : Int32))], [], (mk I J)))))) :
    mj_G Ω l false mX4_driftAll d 0 0 Φ 0 0 9 ([some (.ref c), some (.ref f), some (.int x2), none], [], mk I J) := by
  rcases hf with ⟨rfl, rfl⟩ | ⟨rfl, rfl⟩ | ⟨rfl, rfl⟩ | ⟨rfl, rfl⟩ <;> exact mj_blk (μ := mX4_driftAll) (P := pX4_driftAll) (cut := cutX4_driftAll) (cs := csX4_driftAll) dX4_driftAll csX4_driftAll_ok hd 44 9 _ h
set_option maxRecDepth 100000 in
set_option maxHeartbeats 4000000 in
theorem bX4_driftAll_15 {Ω : mj_Om} {l : Launch} {d : Nat} {Φ : Option Value → mj_M → Prop} (hd : 2 ≤ d) (c f : Nat) (hf : isCF c f) (x2 : Int32) (x3 : Int32) (I : Nat → Nat → Int32) (J : Nat → Nat → Int64)
    (h : ((if x3 < (I f 8) then (mj_gd (mj_inB x3 8) (if (I (f + 1) (x3).toNatClampNeg) = x2 then (mj_gd (mj_inB x3 8) ((isF3 f ∧ mj_isk (mk I J)) ∧ ((okF I f) ∧ (if (b2i (held (nF I f) (VF I f) (x2 + (1 : Int32)) (I (f + 2) (x3).toNatClampNeg))) = (0 : Int32) then (mj_gd (mj_inB x3 8) (mj_G Ω l false mX4_driftAll d 0 0 Φ 0 0 15 ([some (.ref c), some (.ref f), some (.int x2), some (.int (x3 + (1 : Int32)))], [], (mk (mj_ui I (f + 1) (x3).toNatClampNeg (x2 + (1 : Int32))) J)))) else (mj_G Ω l false mX4_driftAll d 0 0 Φ 0 0 15 ([some (.ref c), some (.ref f), some (.int x2), some (.int (x3 + (1 : Int32)))], [], (mk I J))))))) else (mj_G Ω l false mX4_driftAll d 0 0 Φ 0 0 15 ([some (.ref c), some (.ref f), some (.int x2), some (.int (x3 + (1 : Int32)))], [], (mk I J))))) else (mj_G Ω l false mX4_driftAll d 0 0 Φ 0 0 9 ([some (.ref c), some (.ref f), some (.int (x2 + (-1 : Int32))), none], [], (mk I J)))))) :
    mj_G Ω l false mX4_driftAll d 0 0 Φ 0 0 15 ([some (.ref c), some (.ref f), some (.int x2), some (.int x3)], [], mk I J) := by
  rcases hf with ⟨rfl, rfl⟩ | ⟨rfl, rfl⟩ | ⟨rfl, rfl⟩ | ⟨rfl, rfl⟩ <;> exact mj_blk (μ := mX4_driftAll) (P := pX4_driftAll) (cut := cutX4_driftAll) (cs := csX4_driftAll) dX4_driftAll csX4_driftAll_ok hd 44 15 _ h
def tX4_driftAll : mj_PT := fun as M Φ => match as with
  | [.ref c_, .ref f_] => ((isCF c_ f_ ∧ mj_isk M) ∧ ((okF M.2.2.1 f_ ∧ lineOk (lv7 (M.2.2.1 (c_ + 1)))) ∧ (∀ I1 : Nat → Nat → Int32, (VF I1 f_ = driftC (nF M.2.2.1 f_) ((M.2.2.1 (c_ + 1) 0).toNatClampNeg - 1) (VF M.2.2.1 f_) ∧ fr (fun c _ => c = f_ + 1) M.2.2.1 I1) → Φ none (M.1, M.2.1, I1, M.2.2.2))))
  | _ => False
theorem mnX4_driftAll {Ω : mj_Om} {l : Launch} {d : Nat} {Φ : Option Value → mj_M → Prop} (hd : 2 ≤ d) (c f : Nat) (hf : isCF c f) (I : Nat → Nat → Int32) (J : Nat → Nat → Int64) (hp : okF I f ∧ lineOk (lv7 (I (c + 1)))) (h : ∀ I1 : Nat → Nat → Int32, (VF I1 f = driftC (nF I f) ((I (c + 1) 0).toNatClampNeg - 1) (VF I f) ∧ fr (fun c _ => c = f + 1) I I1) → Φ none (mk I1 J)) : mj_Met Ω l false mX4_driftAll d 0 0 [.ref c, .ref f] (mk I J) Φ := by
  refine inX4_driftAll hd c f hf I J ?_
  obtain ⟨⟨hc, hn⟩, hl⟩ := hp
  have hw := hl.1
  rw [lv7_at (by decide)] at hw
  have hcl : (I (c + 1) 0).toNatClampNeg = (I (c + 1) 0).toInt.toNat := rfl
  have key : ∀ (m : Nat) (x2 : Int32) (I' : Nat → Nat → Int32), m ≤ 19 → x2.toInt = (m : Int) - 1 → fr (fun c _ => c = f + 1) I I' → (∀ I1, (VF I1 f = driftC (nF I f) m (VF I' f) ∧ fr (fun c _ => c = f + 1) I I1) → Φ none (mk I1 J)) → mj_G Ω l false mX4_driftAll d 0 0 Φ 0 0 9 ([some (.ref c), some (.ref f), some (.int x2), none], [], mk I' J) := by
    intro m
    induction m with
    | zero =>
      intro x2 I' _ hx hfr h
      refine bX4_driftAll_9 hd c f hf x2 I' J ?_
      rw [if_pos (by rw [Int32.lt_iff_toInt_lt, i_0]; omega)]
      exact h I' ⟨rfl, hfr⟩
    | succ m ih =>
      intro x2 I' hm hx hfr h
      have hx2 : x2 = nI m := Int32.toInt_inj.mp (by rw [jn_toInt (by omega)]; omega)
      subst hx2
      refine bX4_driftAll_9 hd c f hf (nI m) I' J ?_
      rw [if_neg (by rw [Int32.lt_iff_toInt_lt, i_0]; omega)]
      refine lp_inv (σ := Nat → Nat → Int32) (n := nF I f) (G := fun i I'' => mj_G Ω l false mX4_driftAll d 0 0 Φ 0 0 15 ([some (.ref c), some (.ref f), some (.int (nI m)), some (.int (nI i))], [], mk I'' J)) (fun i I'' => VF I'' f = driftB (nF I f) m i (VF I' f) ∧ fr (fun c _ => c = f + 1) I I'') (fun i I'' hi hI hk => ?_) (fun I'' hI => ?_) (nF I f) 0 I' (by omega) ⟨rfl, hfr⟩
      · refine bX4_driftAll_15 hd c f hf (nI m) (nI i) I'' J ?_
        obtain ⟨hV, hfr2⟩ := hI
        obtain ⟨e8, en⟩ := fr_n hfr2 (f := f) (by (try dsimp only); omega)
        have hok := fr_okF hfr2 (f := f) (by (try dsimp only); omega) ⟨hc, hn⟩
        rw [hc] at e8
        simp (disch := omega) only [hc, jn_lt, jn_le, jn_eq, jn_cl, jn_in, jn_succ, gd_dec, if_pos, if_neg, n6_0, n6_1, n6_2, n6_3, n6_4, n6_5, e8]
        rw [← VF_0 (I := I'') (f := f) (b := i) (by omega), ← VF_1 (I := I'') (f := f) (b := i) (by omega), en]
        split
        · rename_i q
          refine ⟨⟨isCF_f hf, mj_isk_mk _ _⟩, hok, ?_⟩
          split
          · rename_i q2
            rw [b2i_e0] at q2
            exact hk _ ⟨by rw [VFu_0 (by omega), driftB, ← hV, cif_t ⟨q, q2⟩], fr_ui hfr2 rfl⟩
          · rename_i q2
            rw [b2i_e0] at q2
            exact hk _ ⟨by rw [driftB, ← hV, cif_f (fun z => q2 z.2)], hfr2⟩
        · rename_i q
          exact hk _ ⟨by rw [driftB, ← hV, cif_f (fun z => q z.1)], hfr2⟩
      · refine bX4_driftAll_15 hd c f hf (nI m) (nI (nF I f)) I'' J ?_
        obtain ⟨hV, hfr2⟩ := hI
        obtain ⟨e8, en⟩ := fr_n hfr2 (f := f) (by (try dsimp only); omega)
        rw [hc] at e8
        simp (disch := omega) only [hc, jn_lt, jn_le, jn_eq, jn_cl, jn_in, jn_succ, gd_dec, if_pos, if_neg, n6_0, n6_1, n6_2, n6_3, n6_4, n6_5, e8]
        exact ih _ I'' (by omega) (by rw [i_addm (by rw [jn_toInt (by omega)]; omega), jn_toInt (by omega)]) hfr2 (fun I1 h1 => h I1 ⟨by rw [h1.1, hV]; rfl, h1.2⟩)
  exact key ((I (c + 1) 0).toNatClampNeg - 1) _ I (by omega) (by rw [i_sub (y := 2) (by have : (2 : Int32).toInt = 2 := rfl; omega)]; have : (2 : Int32).toInt = 2 := rfl; omega) fr_rf h
theorem sdX4_driftAll : mj_Sd mX4_driftAll 2 tX4_driftAll := by
  intro Ω l d hd as M Φ h
  unfold tX4_driftAll at h
  split at h
  · rename_i c f
    obtain ⟨⟨hf, hM⟩, hp, h⟩ := h
    rw [mj_isk_of hM]
    exact mnX4_driftAll hd c f hf _ _ hp (by
      rw [mj_isk_of hM] at h
      exact h)
  · exact h.elim
def csX4_sail : List (Nat × Nat × Nat × mj_PT) := [(123, 0, 3, mj_rcv 3 tX3_isHeld)]
theorem csX4_sail_ok : mj_Cs mX4_sail 2 csX4_sail := (mj_CsV (D' := 1) (ci := 3) (q := (RX3, TX3, 10)) sdX3_isHeld (Nat.le_of_ble_eq_true rfl) fX3_isHeld rfl rfl iX3_isHeld vX3_isHeld (by decide +kernel) l4_123 mj_Cs0)
def cutX4_sail : List (Nat × List Bool) := [(17, [true, true, true, true, true])]
set_option maxRecDepth 100000 in
set_option maxHeartbeats 4000000 in
theorem inX4_sail {Ω : mj_Om} {l : Launch} {d : Nat} {Φ : Option Value → mj_M → Prop} (hd : 2 ≤ d) (f : Nat) (hf : isF3 f) (b_ : Int32) (I : Nat → Nat → Int32) (J : Nat → Nat → Int64)
    (h : ((mj_gd (mj_inB b_ 8) (mj_gd (mj_inB b_ 8) (mj_G Ω l false mX4_sail d 0 0 Φ 0 0 17 ([some (.ref 75), some (.ref f), some (.int b_), some (.int ((I (f + 3) (b_).toNatClampNeg) - (I 77 (b_).toNatClampNeg))), some (.int (0 : Int32))], [], (mk I J))))))) :
    mj_Met Ω l false mX4_sail d 0 0 [.ref 75, .ref f, .int b_] (mk I J) Φ := by
  rcases hf with rfl | rfl | rfl <;> exact mj_entry (by decide) rfl (fun h => (by cases h)) (Nat.le_of_ble_eq_true rfl) (mj_blk (μ := mX4_sail) (P := pX4_sail) (cut := cutX4_sail) (cs := csX4_sail) dX4_sail csX4_sail_ok hd 46 0 _ h)
set_option maxRecDepth 100000 in
set_option maxHeartbeats 4000000 in
theorem bX4_sail_17 {Ω : mj_Om} {l : Launch} {d : Nat} {Φ : Option Value → mj_M → Prop} (hd : 2 ≤ d) (f : Nat) (hf : isF3 f) (x2 : Int32) (x3 : Int32) (x4 : Int32) (I : Nat → Nat → Int32) (J : Nat → Nat → Int64)
    (h : ((if x4 < x3 then (mj_gd (mj_inB x2 8) (mj_gd (mj_inB x2 8) ((isF3 f ∧ mj_isk (mk I J)) ∧ ((okF I f) ∧ (if (b2i (held (nF I f) (VF I f) (I (f + 1) (x2).toNatClampNeg) ((I (f + 2) (x2).toNatClampNeg) - (1 : Int32)))) = (0 : Int32) then (mj_gd (mj_inB x2 8) (mj_gd (mj_inB x2 8) (mj_G Ω l false mX4_sail d 0 0 Φ 0 0 17 ([some (.ref 75), some (.ref f), some (.int x2), some (.int x3), some (.int (x4 + (1 : Int32)))], [], (mk (mj_ui I (f + 2) (x2).toNatClampNeg ((I (f + 2) (x2).toNatClampNeg) - (1 : Int32))) J))))) else (mj_gd (mj_inB x2 8) (Φ none (mk (mj_ui I (f + 3) (x2).toNatClampNeg (0 : Int32)) J)))))))) else (Φ none (mk I J))))) :
    mj_G Ω l false mX4_sail d 0 0 Φ 0 0 17 ([some (.ref 75), some (.ref f), some (.int x2), some (.int x3), some (.int x4)], [], mk I J) := by
  rcases hf with rfl | rfl | rfl <;> exact mj_blk (μ := mX4_sail) (P := pX4_sail) (cut := cutX4_sail) (cs := csX4_sail) dX4_sail csX4_sail_ok hd 46 17 _ h
def tX4_sail : mj_PT := fun as M Φ => match as with
  | [.ref this, .ref f_, .int b_] => ((this = 75 ∧ isF3 f_ ∧ mj_isk M) ∧ (∃ b : Nat, b_ = nI b ∧ ((okF M.2.2.1 f_ ∧ b < nF M.2.2.1 f_) ∧ (∀ I1 : Nat → Nat → Int32, (VF I1 f_ = sailV (nF M.2.2.1 f_) (M.2.2.1 77) (VF M.2.2.1 f_) b ∧ fr (fun c _ => c = f_ + 2 ∨ c = f_ + 3) M.2.2.1 I1) → Φ none (M.1, M.2.1, I1, M.2.2.2)))))
  | _ => False
theorem mnX4_sail {Ω : mj_Om} {l : Launch} {d : Nat} {Φ : Option Value → mj_M → Prop} (hd : 2 ≤ d) (f : Nat) (hf : isF3 f) (b : Nat) (I : Nat → Nat → Int32) (J : Nat → Nat → Int64) (hp : okF I f ∧ b < nF I f) (h : ∀ I1 : Nat → Nat → Int32, (VF I1 f = sailV (nF I f) (I 77) (VF I f) b ∧ fr (fun c _ => c = f + 2 ∨ c = f + 3) I I1) → Φ none (mk I1 J)) : mj_Met Ω l false mX4_sail d 0 0 [.ref 75, .ref f, .int (nI b)] (mk I J) Φ := by
  refine inX4_sail hd f hf (nI b) I J ?_
  obtain ⟨⟨hc, hn⟩, hb⟩ := hp
  simp (disch := omega) only [jn_in, jn_cl, gd_dec, n6_0, n6_1, n6_2, n6_3, n6_4, n6_5]
  rw [← VF_2 hb]
  unfold sailV at h
  generalize hL : VF I f 2 b - I 77 b = L at *
  have hl2 := cl_lt L
  have key : ∀ (k i : Nat) (I' : Nat → Nat → Int32), i + k = L.toNatClampNeg → fr (fun c _ => c = f + 2 ∨ c = f + 3) I I' → (∀ I1, (VF I1 f = sailN (nF I f) b k (VF I' f) ∧ fr (fun c _ => c = f + 2 ∨ c = f + 3) I I1) → Φ none (mk I1 J)) → mj_G Ω l false mX4_sail d 0 0 Φ 0 0 17 ([some (.ref 75), some (.ref f), some (.int (nI b)), some (.int L), some (.int (nI i))], [], mk I' J) := by
    intro k
    induction k with
    | zero =>
      intro i I' hi hfr h
      refine bX4_sail_17 hd f hf (nI b) L (nI i) I' J ?_
      rw [if_neg (by rw [jn_ltx (by omega)]; omega)]
      exact h I' ⟨rfl, hfr⟩
    | succ k ih =>
      intro i I' hi hfr h
      refine bX4_sail_17 hd f hf (nI b) L (nI i) I' J ?_
      obtain ⟨e8, en⟩ := fr_n hfr (f := f) (by (try dsimp only); omega)
      have hok := fr_okF hfr (f := f) (by (try dsimp only); omega) ⟨hc, hn⟩
      rw [if_pos (by rw [jn_ltx (by omega)]; omega)]
      simp (disch := omega) only [hc, jn_lt, jn_le, jn_eq, jn_cl, jn_in, jn_succ, gd_dec, if_pos, if_neg, n6_0, n6_1, n6_2, n6_3, n6_4, n6_5, e8]
      rw [← VF_0 (I := I') (f := f) (b := b) (by omega), ← VF_1 (I := I') (f := f) (b := b) (by omega), en]
      refine ⟨⟨hf, mj_isk_mk _ _⟩, hok, ?_⟩
      split
      · rename_i q
        rw [b2i_e0] at q
        refine ih (i + 1) _ (by omega) (fr_ui hfr (Or.inl rfl)) (fun I1 h1 => h I1 ⟨?_, h1.2⟩)
        rw [sailN, cif_f q, h1.1, VFu_1 (by omega)]
      · rename_i q
        rw [b2i_e0] at q
        refine h _ ⟨?_, fr_ui hfr (Or.inr rfl)⟩
        rw [sailN, cif_t (Classical.not_not.mp q), VFu_2 (by omega)]
  exact key _ 0 I (by omega) fr_rf h
theorem sdX4_sail : mj_Sd mX4_sail 2 tX4_sail := by
  intro Ω l d hd as M Φ h
  unfold tX4_sail at h
  split at h
  · rename_i z_this f b_
    obtain ⟨⟨rfl, hf, hM⟩, b, rfl, hp, h⟩ := h
    rw [mj_isk_of hM]
    exact mnX4_sail hd f hf b _ _ hp (by
      rw [mj_isk_of hM] at h
      exact h)
  · exact h.elim
def csX4_look : List (Nat × Nat × Nat × mj_PT) := [(65, 0, 2, mj_rcv 3 tX3_isShadowed)]
theorem csX4_look_ok : mj_Cs mX4_look 3 csX4_look := (mj_CsV (D' := 2) (ci := 3) (q := (RX3, TX3, 10)) sdX3_isShadowed (Nat.le_of_ble_eq_true rfl) fX3_isShadowed rfl rfl iX3_isShadowed vX3_isShadowed (by decide +kernel) l4_65 mj_Cs0)
def cutX4_look : List (Nat × List Bool) := [(2, [true, true, true, false]), (31, [true, true, true, true])]
set_option maxRecDepth 100000 in
set_option maxHeartbeats 4000000 in
theorem inX4_look {Ω : mj_Om} {l : Launch} {d : Nat} {Φ : Option Value → mj_M → Prop} (hd : 3 ≤ d) (f : Nat) (hf : isF3 f) (I : Nat → Nat → Int32) (J : Nat → Nat → Int64)
    (h : ((mj_G Ω l false mX4_look d 0 0 Φ 0 0 2 ([some (.ref 75), some (.ref f), some (.int (0 : Int32)), none], [], (mk I J))))) :
    mj_Met Ω l false mX4_look d 0 0 [.ref 75, .ref f] (mk I J) Φ := by
  rcases hf with rfl | rfl | rfl <;> exact mj_entry (by decide) rfl (fun h => (by cases h)) (Nat.le_of_ble_eq_true rfl) (mj_blk (μ := mX4_look) (P := pX4_look) (cut := cutX4_look) (cs := csX4_look) dX4_look csX4_look_ok hd 56 0 _ h)
set_option maxRecDepth 100000 in
set_option maxHeartbeats 4000000 in
theorem bX4_look_2 {Ω : mj_Om} {l : Launch} {d : Nat} {Φ : Option Value → mj_M → Prop} (hd : 3 ≤ d) (f : Nat) (hf : isF3 f) (x2 : Int32) (I : Nat → Nat → Int32) (J : Nat → Nat → Int64)
    (h : ((if x2 < (I f 8) then ((isF3 f ∧ mj_isk (mk I J)) ∧ ((okF I f ∧ isB (nF I f) x2) ∧ (if (b2i (shad (nF I f) (VF I f) (x2).toNatClampNeg)) = (0 : Int32) then (mj_gd (mj_inB x2 8) (mj_G Ω l false mX4_look d 0 0 Φ 0 0 31 ([some (.ref 75), some (.ref f), some (.int x2), some (.int x2)], [], (mk (mj_ui I 77 (x2).toNatClampNeg (0 : Int32)) J)))) else (mj_gd (mj_inB x2 8) (mj_G Ω l false mX4_look d 0 0 Φ 0 0 31 ([some (.ref 75), some (.ref f), some (.int x2), some (.int x2)], [], (mk (mj_ui I 77 (x2).toNatClampNeg (1 : Int32)) J))))))) else (Φ none (mk I J))))) :
    mj_G Ω l false mX4_look d 0 0 Φ 0 0 2 ([some (.ref 75), some (.ref f), some (.int x2), none], [], mk I J) := by
  rcases hf with rfl | rfl | rfl <;> exact mj_blk (μ := mX4_look) (P := pX4_look) (cut := cutX4_look) (cs := csX4_look) dX4_look csX4_look_ok hd 56 2 _ h
set_option maxRecDepth 100000 in
set_option maxHeartbeats 4000000 in
theorem bX4_look_31 {Ω : mj_Om} {l : Launch} {d : Nat} {Φ : Option Value → mj_M → Prop} (hd : 3 ≤ d) (f : Nat) (hf : isF3 f) (x2 : Int32) (x3 : Int32) (I : Nat → Nat → Int32) (J : Nat → Nat → Int64)
    (h : ((if (0 : Int32) < x3 then (mj_gd (mj_inB (x3 - (1 : Int32)) 8) (mj_gd (mj_inB (I 78 ((x3 - (1 : Int32))).toNatClampNeg) 8) (mj_gd (mj_inB x2 8) (if (I (f + 2) (x2).toNatClampNeg) < (I (f + 2) ((I 78 ((x3 - (1 : Int32))).toNatClampNeg)).toNatClampNeg) then (mj_gd (mj_inB (x3 - (1 : Int32)) 8) (mj_gd (mj_inB x3 8) (mj_G Ω l false mX4_look d 0 0 Φ 0 0 31 ([some (.ref 75), some (.ref f), some (.int x2), some (.int (x3 + (-1 : Int32)))], [], (mk (mj_ui I 78 (x3).toNatClampNeg (I 78 ((x3 - (1 : Int32))).toNatClampNeg)) J))))) else (mj_gd (mj_inB x3 8) (mj_G Ω l false mX4_look d 0 0 Φ 0 0 2 ([some (.ref 75), some (.ref f), some (.int (x2 + (1 : Int32))), none], [], (mk (mj_ui I 78 (x3).toNatClampNeg x2) J)))))))) else (mj_gd (mj_inB x3 8) (mj_G Ω l false mX4_look d 0 0 Φ 0 0 2 ([some (.ref 75), some (.ref f), some (.int (x2 + (1 : Int32))), none], [], (mk (mj_ui I 78 (x3).toNatClampNeg x2) J))))))) :
    mj_G Ω l false mX4_look d 0 0 Φ 0 0 31 ([some (.ref 75), some (.ref f), some (.int x2), some (.int x3)], [], mk I J) := by
  rcases hf with rfl | rfl | rfl <;> exact mj_blk (μ := mX4_look) (P := pX4_look) (cut := cutX4_look) (cs := csX4_look) dX4_look csX4_look_ok hd 56 31 _ h
def tX4_look : mj_PT := fun as M Φ => match as with
  | [.ref this, .ref f_] => ((this = 75 ∧ isF3 f_ ∧ mj_isk M) ∧ ((okF M.2.2.1 f_) ∧ (∀ I1 : Nat → Nat → Int32, ((∀ b, b < nF M.2.2.1 f_ → I1 77 b = shV (nF M.2.2.1 f_) (VF M.2.2.1 f_) b ∧ I1 78 b = nI (ordN (nF M.2.2.1 f_) (VF M.2.2.1 f_ 1) b)) ∧ fr (fun c _ => c = 77 ∨ c = 78) M.2.2.1 I1) → Φ none (M.1, M.2.1, I1, M.2.2.2))))
  | _ => False
theorem mnX4_look {Ω : mj_Om} {l : Launch} {d : Nat} {Φ : Option Value → mj_M → Prop} (hd : 3 ≤ d) (f : Nat) (hf : isF3 f) (I : Nat → Nat → Int32) (J : Nat → Nat → Int64) (hp : okF I f) (h : ∀ I1 : Nat → Nat → Int32, ((∀ b, b < nF I f → I1 77 b = shV (nF I f) (VF I f) b ∧ I1 78 b = nI (ordN (nF I f) (VF I f 1) b)) ∧ fr (fun c _ => c = 77 ∨ c = 78) I I1) → Φ none (mk I1 J)) : mj_Met Ω l false mX4_look d 0 0 [.ref 75, .ref f] (mk I J) Φ := by
  refine inX4_look hd f hf I J ?_
  obtain ⟨hc, hn⟩ := hp
  have hfb := isF3_b hf
  refine lp_inv (σ := Nat → Nat → Int32) (n := nF I f) (G := fun i I' => mj_G Ω l false mX4_look d 0 0 Φ 0 0 2 ([some (.ref 75), some (.ref f), some (.int (nI i)), none], [], mk I' J)) (fun i I' => (∀ b, b < i → I' 77 b = shV (nF I f) (VF I f) b ∧ I' 78 b = nI (ordN i (VF I f 1) b)) ∧ fr (fun c _ => c = 77 ∨ c = 78) I I') (fun i I' hi hI hk => ?_) (fun I' hI => ?_) (nF I f) 0 I (by omega) ⟨fun b hb => absurd hb (Nat.not_lt_zero b), fr_rf⟩
  · refine bX4_look_2 hd f hf (nI i) I' J ?_
    obtain ⟨hV, hfr⟩ := hI
    obtain ⟨e8, en⟩ := fr_n hfr (f := f) (by (try dsimp only); omega)
    have hok := fr_okF hfr (f := f) (by (try dsimp only); omega) ⟨hc, hn⟩
    obtain ⟨-, eV, -, -⟩ := FF_fr (I := I) (I1 := I') (f := f) (fun c k h1 h2 => hfr c k (by (try dsimp only); omega))
    rw [hc] at e8
    simp (disch := omega) only [hc, jn_lt, jn_le, jn_eq, jn_cl, jn_in, jn_succ, gd_dec, if_pos, if_neg, n6_0, n6_1, n6_2, n6_3, n6_4, n6_5, e8]
    refine ⟨⟨hf, mj_isk_mk _ _⟩, ⟨hok, isB_nI (by omega) (by omega)⟩, ?_⟩
    rw [en, eV]
    have inner : ∀ (p : Nat) (I2 : Nat → Nat → Int32), p ≤ i → fr (fun c _ => c = 77 ∨ c = 78) I I2 → (∀ b, b < i + 1 → I2 77 b = shV (nF I f) (VF I f) b) → (∀ k, k < p → I2 78 k = nI (ordN i (VF I f 1) k)) → (∀ k, p < k → k ≤ i → I2 78 k = nI (ordN i (VF I f 1) (k - 1))) → (∀ k, p ≤ k → k < i → VF I f 1 i < VF I f 1 (ordN i (VF I f 1) k)) → mj_G Ω l false mX4_look d 0 0 Φ 0 0 31 ([some (.ref 75), some (.ref f), some (.int (nI i)), some (.int (nI p))], [], mk I2 J) := by
      intro p
      induction p with
      | zero =>
        intro I2 hp hfr2 h77 ha hb hg
        refine bX4_look_31 hd f hf (nI i) (nI 0) I2 J ?_
        rw [if_neg (by decide)]
        simp (disch := omega) only [hc, jn_lt, jn_le, jn_eq, jn_cl, jn_in, jn_succ, gd_dec, if_pos, if_neg, n6_0, n6_1, n6_2, n6_3, n6_4, n6_5]
        have hpc := ord_ex (Nat.zero_le i) hg (Or.inl rfl)
        refine hk _ ⟨fun b hb2 => ⟨by rw [ui_c (by decide)]; exact h77 b hb2, ?_⟩, fr_ui hfr2 (Or.inr rfl)⟩
        rw [ord_ins hpc hb2, if_neg (Nat.not_lt_zero b)]
        by_cases q : b = 0
        · rw [if_pos q, q, ui_s]
        · rw [if_neg q, ui_k q]
          exact hb b (by omega) (by omega)
      | succ p ih =>
        intro I2 hp hfr2 h77 ha hb hg
        refine bX4_look_31 hd f hf (nI i) (nI (p + 1)) I2 J ?_
        have ho := (ordN_sp (B := VF I f 1) (show p < i by omega)).1
        obtain ⟨e82, en2⟩ := fr_n hfr2 (f := f) (by (try dsimp only); omega)
        obtain ⟨-, eV2, -, -⟩ := FF_fr (I := I) (I1 := I2) (f := f) (fun c k h1 h2 => hfr2 c k (by (try dsimp only); omega))
        have es : nI (p + 1) - 1 = nI p := jn_sub (a := p + 1) (b := 1) (by omega)
        have es2 : nI (p + 1) + -1 = nI p := by rw [← es]; exact (Int32.sub_eq_add_neg _ _).symm
        rw [if_pos (show (0 : Int32) < nI (p + 1) by rw [jn_ltx0, jn_cl (by omega)]; omega)]
        simp only [es, es2]
        simp (disch := omega) only [jn_in, jn_cl, gd_dec, n6_0, n6_1, n6_2, n6_3, n6_4, n6_5]
        rw [ha p (by omega)]
        simp (disch := omega) only [hc, jn_lt, jn_le, jn_eq, jn_cl, jn_in, jn_succ, gd_dec, if_pos, if_neg, n6_0, n6_1, n6_2, n6_3, n6_4, n6_5]
        rw [← VF_1 (I := I2) (f := f) (b := i) (by omega), ← VF_1 (I := I2) (f := f) (b := ordN i (VF I f 1) p) (by omega), eV2]
        split
        · rename_i q
          refine ih _ (by omega) (fr_ui hfr2 (Or.inr rfl)) (fun b hb2 => by rw [ui_c (by decide)]; exact h77 b hb2) (fun k hk2 => ?_) (fun k h1 h2 => ?_) (fun k h1 h2 => ?_)
          · rw [ui_k (by omega)]; exact ha k (by omega)
          · by_cases z : k = p + 1
            · rw [z, ui_s]; rfl
            · rw [ui_k z]; exact hb k (by omega) h2
          · by_cases z : k = p
            · rw [z]; exact q
            · exact hg k (by omega) h2
        · rename_i q
          have hpc := ord_ex hp hg (Or.inr q)
          refine hk _ ⟨fun b hb2 => ⟨by rw [ui_c (by decide)]; exact h77 b hb2, ?_⟩, fr_ui hfr2 (Or.inr rfl)⟩
          rw [ord_ins hpc hb2]
          by_cases z1 : b < p + 1
          · rw [if_pos z1, ui_k (by omega)]; exact ha b z1
          · rw [if_neg z1]
            by_cases z : b = p + 1
            · rw [if_pos z, z, ui_s]
            · rw [if_neg z, ui_k z]; exact hb b (by omega) (by omega)
    have start : ∀ x : Int32, x = shV (nF I f) (VF I f) i → mj_G Ω l false mX4_look d 0 0 Φ 0 0 31 ([some (.ref 75), some (.ref f), some (.int (nI i)), some (.int (nI i))], [], mk (mj_ui I' 77 i x) J) := by
      intro x hx
      refine inner i _ (Nat.le_refl _) (fr_ui hfr (Or.inl rfl)) (fun b hb2 => ?_) (fun k hk2 => ?_) (fun k h1 h2 => by omega) (fun k h1 h2 => by omega)
      · by_cases z : b = i
        · rw [z, ui_s, hx]
        · rw [ui_k z]; exact (hV b (by omega)).1
      · rw [ui_c (by decide)]; exact (hV k hk2).2
    split
    · rename_i q
      try simp (disch := omega) only [jn_in, jn_cl, gd_dec, n6_0, n6_1, n6_2, n6_3, n6_4, n6_5]
      exact start 0 q.symm
    · rename_i q
      rw [b2i_e0] at q
      try simp (disch := omega) only [jn_in, jn_cl, gd_dec, n6_0, n6_1, n6_2, n6_3, n6_4, n6_5]
      exact start 1 (b2i_1 (Classical.not_not.mp q)).symm
  · refine bX4_look_2 hd f hf (nI (nF I f)) I' J ?_
    obtain ⟨e8, en⟩ := fr_n hI.2 (f := f) (by (try dsimp only); omega)
    rw [hc] at e8
    simp (disch := omega) only [hc, jn_lt, jn_le, jn_eq, jn_cl, jn_in, jn_succ, gd_dec, if_pos, if_neg, n6_0, n6_1, n6_2, n6_3, n6_4, n6_5, e8]
    exact h I' hI
theorem sdX4_look : mj_Sd mX4_look 3 tX4_look := by
  intro Ω l d hd as M Φ h
  unfold tX4_look at h
  split at h
  · rename_i z_this f
    obtain ⟨⟨rfl, hf, hM⟩, hp, h⟩ := h
    rw [mj_isk_of hM]
    exact mnX4_look hd f hf _ _ hp (by
      rw [mj_isk_of hM] at h
      exact h)
  · exact h.elim
