/-! ===== race (by program, wip/whole/p60.py) ===== -/
def raceOk (n : Nat) (C : Nat → Int32) (s : Int32) (r : Nat) : Prop := 0 < n ∧ ¬ 0 < C 5 - s ∧ r < 40
noncomputable def raceV (n : Nat) (C : Nat → Int32) (s : Int32) (r : Nat) : Int32 := cif (raceOk n C s r) (nI (r + 1)) (-1)
def csX5_addRace : List (Nat × Nat × Nat × mj_PT) := [(36, 0, 3, mj_rcv 1 tX1_placeOf)]
theorem csX5_addRace_ok : mj_Cs mX5_addRace 5 csX5_addRace := (mj_CsV (D' := 4) (ci := 1) (q := (RX1, TX1, 1)) sdX1_placeOf (Nat.le_of_ble_eq_true rfl) fX1_placeOf rfl rfl iX1_placeOf vX1_placeOf (by decide +kernel) l5_36 mj_Cs0)
def cutX5_addRace : List (Nat × List Bool) := [(2, [true, true, true, true])]
set_option maxRecDepth 100000 in
set_option maxHeartbeats 4000000 in
theorem inX5_addRace {Ω : mj_Om} {l : Launch} {d : Nat} {Φ : Option Value → mj_M → Prop} (hd : 5 ≤ d) (c f : Nat) (hf : isCF c f) (I : Nat → Nat → Int32) (J : Nat → Nat → Int64)
    (h : ((mj_G Ω l false mX5_addRace d 0 0 Φ 0 0 2 ([some (.ref 86), some (.ref c), some (.ref f), some (.int (0 : Int32))], [], (mk I J))))) :
    mj_Met Ω l false mX5_addRace d 0 0 [.ref 86, .ref c, .ref f] (mk I J) Φ := by
  rcases hf with ⟨rfl, rfl⟩ | ⟨rfl, rfl⟩ | ⟨rfl, rfl⟩ | ⟨rfl, rfl⟩ <;> exact mj_entry (by decide) rfl (fun h => (by cases h)) (Nat.le_of_ble_eq_true rfl) (mj_blk (μ := mX5_addRace) (P := pX5_addRace) (cut := cutX5_addRace) (cs := csX5_addRace) dX5_addRace csX5_addRace_ok hd 29 0 _ h)
set_option maxRecDepth 100000 in
set_option maxHeartbeats 4000000 in
theorem bX5_addRace_2 {Ω : mj_Om} {l : Launch} {d : Nat} {Φ : Option Value → mj_M → Prop} (hd : 5 ≤ d) (c f : Nat) (hf : isCF c f) (x3 : Int32) (I : Nat → Nat → Int32) (J : Nat → Nat → Int64)
    (h : ((if x3 < (I f 8) then (mj_gd (mj_inB x3 8) ((isCF c f ∧ mj_isk (mk I J)) ∧ (∃ b918 : Nat, x3 = nI b918 ∧ ((okF I f ∧ b918 < nF I f ∧ lineOk (lv7 (I (c + 1)))) ∧ (mj_gd (mj_inB x3 8) (mj_G Ω l false mX5_addRace d 0 0 Φ 0 0 2 ([some (.ref 86), some (.ref c), some (.ref f), some (.int (x3 + (1 : Int32)))], [], (mk (mj_ui I 90 (x3).toNatClampNeg ((I 90 (x3).toNatClampNeg) + (nI (place (nF I f) (lv7 (I (c + 1))) (I (c + 1) 6) (VF I f) b918)))) J)))))))) else (Φ (some (.int ((I 86 5) + (1 : Int32)))) (mk (mj_ui I 86 5 ((I 86 5) + (1 : Int32))) J))))) :
    mj_G Ω l false mX5_addRace d 0 0 Φ 0 0 2 ([some (.ref 86), some (.ref c), some (.ref f), some (.int x3)], [], mk I J) := by
  rcases hf with ⟨rfl, rfl⟩ | ⟨rfl, rfl⟩ | ⟨rfl, rfl⟩ | ⟨rfl, rfl⟩ <;> exact mj_blk (μ := mX5_addRace) (P := pX5_addRace) (cut := cutX5_addRace) (cs := csX5_addRace) dX5_addRace csX5_addRace_ok hd 29 2 _ h
def tX5_addRace : mj_PT := fun as M Φ => match as with
  | [.ref this, .ref c_, .ref f_] => ((this = 86 ∧ isCF c_ f_ ∧ mj_isk M) ∧ ((okF M.2.2.1 f_ ∧ lineOk (lv7 (M.2.2.1 (c_ + 1)))) ∧ (∀ I1 : Nat → Nat → Int32, (I1 86 5 = M.2.2.1 86 5 + 1 ∧ (∀ b, b < nF M.2.2.1 f_ → I1 90 b = M.2.2.1 90 b + (nI (place (nF M.2.2.1 f_) (lv7 (M.2.2.1 (c_ + 1))) (M.2.2.1 (c_ + 1) 6) (VF M.2.2.1 f_) b))) ∧ fr (fun c k => c = 90 ∨ (c = 86 ∧ k = 5)) M.2.2.1 I1) → Φ (some (.int (M.2.2.1 86 5 + 1))) (M.1, M.2.1, I1, M.2.2.2))))
  | _ => False
set_option maxHeartbeats 8000000 in
theorem mnX5_addRace {Ω : mj_Om} {l : Launch} {d : Nat} {Φ : Option Value → mj_M → Prop} (hd : 5 ≤ d) (c f : Nat) (hf : isCF c f) (I : Nat → Nat → Int32) (J : Nat → Nat → Int64) (hp : okF I f ∧ lineOk (lv7 (I (c + 1)))) (h : ∀ I1 : Nat → Nat → Int32, (I1 86 5 = I 86 5 + 1 ∧ (∀ b, b < nF I f → I1 90 b = I 90 b + (nI (place (nF I f) (lv7 (I (c + 1))) (I (c + 1) 6) (VF I f) b))) ∧ fr (fun c k => c = 90 ∨ (c = 86 ∧ k = 5)) I I1) → Φ (some (.int (I 86 5 + 1))) (mk I1 J)) : mj_Met Ω l false mX5_addRace d 0 0 [.ref 86, .ref c, .ref f] (mk I J) Φ := by
  refine inX5_addRace hd c f hf I J ?_
  obtain ⟨⟨hc, hn⟩, hl⟩ := hp
  have hf' := hf
  unfold isCF at hf'
  refine lp_inv (σ := Nat → Nat → Int32) (n := nF I f) (G := fun i A => mj_G Ω l false mX5_addRace d 0 0 Φ 0 0 2 ([some (.ref 86), some (.ref c), some (.ref f), some (.int (nI i))], [], mk A J)) (fun i A => (∀ b, b < i → A 90 b = I 90 b + (nI (place (nF I f) (lv7 (I (c + 1))) (I (c + 1) 6) (VF I f) b))) ∧ (∀ b, i ≤ b → A 90 b = I 90 b) ∧ fr (fun c _ => c = 90) I A) (fun i A hi hI hk => ?_) (fun A hI => ?_) (nF I f) 0 I (by omega) ⟨fun b hb => absurd hb (Nat.not_lt_zero b), fun b _ => rfl, fr_rf⟩
  · obtain ⟨i1, i2, i3⟩ := hI
    obtain ⟨nA, VA, oA, sA⟩ := FF_fr (I := I) (I1 := A) (f := f) (fun c' k h1 h2 => i3 c' k (by (try dsimp only); omega))
    have CA : lv7 (A (c + 1)) = lv7 (I (c + 1)) := lv7_fr (fun k => i3 (c + 1) k (by (try dsimp only); omega))
    have C6 : A (c + 1) 6 = I (c + 1) 6 := i3 (c + 1) 6 (by (try dsimp only); omega)
    refine bX5_addRace_2 hd c f hf (nI i) A J ?_
    rw [(oA ⟨hc, hn⟩).1, nA, if_pos (show nI i < nI (nF I f) by rw [jn_lt (by omega) (by omega)]; exact hi)]
    simp (disch := omega) only [jn_in, jn_cl, gd_dec, jn_succ]
    refine ⟨⟨hf, mj_isk_mk _ _⟩, i, rfl, ⟨oA ⟨hc, hn⟩, hi, by rw [CA]; exact hl⟩, ?_⟩
    rw [CA, C6, VA, i2 i (Nat.le_refl i)]
    refine hk _ ⟨fun b hb => ?_, fun b hb => ?_, fr_ui i3 rfl⟩
    · by_cases z : b = i
      · rw [z, ui_s]
      · rw [ui_k z]; exact i1 b (by omega)
    · rw [ui_k (by omega)]; exact i2 b (by omega)
  · obtain ⟨i1, i2, i3⟩ := hI
    obtain ⟨nA, VA, oA, sA⟩ := FF_fr (I := I) (I1 := A) (f := f) (fun c' k h1 h2 => i3 c' k (by (try dsimp only); omega))
    refine bX5_addRace_2 hd c f hf (nI (nF I f)) A J ?_
    rw [(oA ⟨hc, hn⟩).1, nA, if_neg Int32.lt_irrefl, i3 86 5 (by (try dsimp only); omega)]
    refine h _ ⟨ui_s, fun b hb => ?_, fr_ui (fun c' k w => i3 c' k (fun z => w (Or.inl z))) (Or.inr ⟨rfl, rfl⟩)⟩
    rw [ui_c (by decide)]; exact i1 b hb
theorem sdX5_addRace : mj_Sd mX5_addRace 5 tX5_addRace := by
  intro Ω l d hd as M Φ h
  unfold tX5_addRace at h
  split at h
  · rename_i z_this c f
    obtain ⟨⟨rfl, hf, hM⟩, hp, h⟩ := h
    rw [mj_isk_of hM]
    exact mnX5_addRace hd c f hf _ _ hp (by
      rw [mj_isk_of hM] at h
      exact h)
  · exact h.elim
def csX12_write : List (Nat × Nat × Nat × mj_PT) := [(315, 0, 2, mj_rcv 12 tX12_placeOf)]
theorem csX12_write_ok : mj_Cs mX12_write 6 csX12_write := (mj_CsV (D' := 5) (ci := 12) (q := (RX12, TX12, 45)) sdX12_placeOf (Nat.le_of_ble_eq_true rfl) fX12_placeOf rfl rfl iX12_placeOf vX12_placeOf (by decide +kernel) l12_315 mj_Cs0)
def cutX12_write : List (Nat × List Bool) := [(2, [true, true])]
set_option maxRecDepth 100000 in
set_option maxHeartbeats 4000000 in
theorem inX12_write {Ω : mj_Om} {l : Launch} {d : Nat} {Φ : Option Value → mj_M → Prop} (hd : 6 ≤ d) (I : Nat → Nat → Int32) (J : Nat → Nat → Int64)
    (h : ((mj_G Ω l false mX12_write d 0 0 Φ 0 0 2 ([some (.ref 91), some (.int (0 : Int32))], [], (mk I J))))) :
    mj_Met Ω l false mX12_write d 0 0 [.ref 91] (mk I J) Φ := mj_entry (by decide) rfl (fun h => (by cases h)) (Nat.le_of_ble_eq_true rfl) (mj_blk (μ := mX12_write) (P := pX12_write) (cut := cutX12_write) (cs := csX12_write) dX12_write csX12_write_ok hd 28 0 _ h)
set_option maxRecDepth 100000 in
set_option maxHeartbeats 4000000 in
theorem bX12_write_2 {Ω : mj_Om} {l : Launch} {d : Nat} {Φ : Option Value → mj_M → Prop} (hd : 6 ≤ d) (x1 : Int32) (I : Nat → Nat → Int32) (J : Nat → Nat → Int64)
    (h : ((if x1 < (I 91 22) then ((91 = 91 ∧ mj_isk (mk I J)) ∧ (∃ b925 : Nat, x1 = nI b925 ∧ (∃ u926 : Int, ((u926 ≤ 1000 ∧ FM u926 I ∧ b925 < nM I) ∧ (mj_gd (mj_inB (((8 : Int32) * (I 91 42)) + x1) 320) (mj_G Ω l false mX12_write d 0 0 Φ 0 0 2 ([some (.ref 91), some (.int (x1 + (1 : Int32)))], [], (mk (mj_ui I 118 ((((8 : Int32) * (I 91 42)) + x1)).toNatClampNeg (nI (place (nM I) (lv7 (I 104)) (I 104 6) (VM I) b925))) J)))))))) else (Φ none (mk (mj_ui I 91 42 ((I 91 42) + (1 : Int32))) J))))) :
    mj_G Ω l false mX12_write d 0 0 Φ 0 0 2 ([some (.ref 91), some (.int x1)], [], mk I J) := mj_blk (μ := mX12_write) (P := pX12_write) (cut := cutX12_write) (cs := csX12_write) dX12_write csX12_write_ok hd 28 2 _ h
def tX12_write : mj_PT := fun as M Φ => match as with
  | [.ref this] => ((this = 91 ∧ mj_isk M) ∧ (∃ u : Int, (∃ r : Nat, ((r < 40 ∧ M.2.2.1 91 42 = nI r ∧ u ≤ 1000 ∧ FM u M.2.2.1) ∧ (∀ I1 : Nat → Nat → Int32, (I1 91 42 = nI (r + 1) ∧ (∀ b, b < nM M.2.2.1 → I1 118 (8 * r + b) = nI (place (nM M.2.2.1) (lv7 (M.2.2.1 104)) (M.2.2.1 104 6) (VM M.2.2.1) b)) ∧ fr (fun c k => (c = 118 ∧ 8 * r ≤ k) ∨ (c = 91 ∧ k = 42)) M.2.2.1 I1) → Φ none (M.1, M.2.1, I1, M.2.2.2))))))
  | _ => False
set_option maxHeartbeats 8000000 in
theorem mnX12_write {Ω : mj_Om} {l : Launch} {d : Nat} {Φ : Option Value → mj_M → Prop} (hd : 6 ≤ d) (u : Int) (r : Nat) (I : Nat → Nat → Int32) (J : Nat → Nat → Int64) (hp : r < 40 ∧ I 91 42 = nI r ∧ u ≤ 1000 ∧ FM u I) (h : ∀ I1 : Nat → Nat → Int32, (I1 91 42 = nI (r + 1) ∧ (∀ b, b < nM I → I1 118 (8 * r + b) = nI (place (nM I) (lv7 (I 104)) (I 104 6) (VM I) b)) ∧ fr (fun c k => (c = 118 ∧ 8 * r ≤ k) ∨ (c = 91 ∧ k = 42)) I I1) → Φ none (mk I1 J)) : mj_Met Ω l false mX12_write d 0 0 [.ref 91] (mk I J) Φ := by
  refine inX12_write hd I J ?_
  obtain ⟨hr, h42, hu, ⟨hc, hn⟩, hF⟩ := hp
  refine lp_inv (σ := Nat → Nat → Int32) (n := nM I) (G := fun i A => mj_G Ω l false mX12_write d 0 0 Φ 0 0 2 ([some (.ref 91), some (.int (nI i))], [], mk A J)) (fun i A => (∀ b, b < i → A 118 (8 * r + b) = nI (place (nM I) (lv7 (I 104)) (I 104 6) (VM I) b)) ∧ fr (fun c k => c = 118 ∧ 8 * r ≤ k) I A) (fun i A hi hI hk => ?_) (fun A hI => ?_) (nM I) 0 I (by omega) ⟨fun b hb => absurd hb (Nat.not_lt_zero b), fr_rf⟩
  · obtain ⟨i1, i3⟩ := hI
    obtain ⟨nA, VA, oA⟩ := MM_fr (I := I) (I1 := A) (i3 91 22 (by (try dsimp only); omega)) (fun k => i3 105 k (by (try dsimp only); omega)) (fun k => i3 106 k (by (try dsimp only); omega))
    have CA : lv7 (A 104) = lv7 (I 104) := lv7_fr (fun k => i3 104 k (by (try dsimp only); omega))
    have C6 : A 104 6 = I 104 6 := i3 104 6 (by (try dsimp only); omega)
    have S6 : A 106 48 = I 106 48 := i3 106 48 (by (try dsimp only); omega)
    refine bX12_write_2 hd (nI i) A J ?_
    rw [(oA ⟨hc, hn⟩).1, nA, if_pos (show nI i < nI (nM I) by rw [jn_lt (by omega) (by omega)]; exact hi), i3 91 42 (by (try dsimp only); omega), h42, n8_b]
    simp (disch := omega) only [jn_in, jn_cl, gd_dec, jn_succ]
    refine ⟨⟨by trivial, mj_isk_mk _ _⟩, i, rfl, u, ⟨hu, ⟨oA ⟨hc, hn⟩, by rw [nA, CA, VA, S6]; exact hF⟩, hi⟩, ?_⟩
    rw [CA, C6, VA]
    refine hk _ ⟨fun b hb => ?_, fr_ui i3 ⟨rfl, by omega⟩⟩
    by_cases z : b = i
    · rw [z, ui_s]
    · rw [ui_k (by omega)]; exact i1 b (by omega)
  · obtain ⟨i1, i3⟩ := hI
    obtain ⟨nA, VA, oA⟩ := MM_fr (I := I) (I1 := A) (i3 91 22 (by (try dsimp only); omega)) (fun k => i3 105 k (by (try dsimp only); omega)) (fun k => i3 106 k (by (try dsimp only); omega))
    refine bX12_write_2 hd (nI (nM I)) A J ?_
    rw [(oA ⟨hc, hn⟩).1, nA, if_neg Int32.lt_irrefl, i3 91 42 (by (try dsimp only); omega), h42, jn_succ]
    refine h _ ⟨ui_s, fun b hb => ?_, fr_ui (fun c' k w => i3 c' k (fun z => w (Or.inl z))) (Or.inr ⟨rfl, rfl⟩)⟩
    rw [ui_c (by decide)]; exact i1 b hb
theorem sdX12_write : mj_Sd mX12_write 6 tX12_write := by
  intro Ω l d hd as M Φ h
  unfold tX12_write at h
  split at h
  · rename_i z_this
    obtain ⟨⟨rfl, hM⟩, u, r, hp, h⟩ := h
    rw [mj_isk_of hM]
    exact mnX12_write hd u r _ _ hp (by
      rw [mj_isk_of hM] at h
      exact h)
  · exact h.elim
def csX11_race : List (Nat × Nat × Nat × mj_PT) := [(204, 0, 1, mj_rcv 11 tX11_hasWater), (243, 0, 2, mj_rcv 1 tX1_secondsLeft), (324, 0, 3, mj_rcv 5 tX5_addRace)]
theorem csX11_race_ok : mj_Cs mX11_race 6 csX11_race := (mj_CsV (D' := 1) (ci := 11) (q := (RX11, TX11, 18)) sdX11_hasWater (Nat.le_of_ble_eq_true rfl) fX11_hasWater rfl rfl iX11_hasWater vX11_hasWater (by decide +kernel) l11_204 (mj_CsV (D' := 1) (ci := 1) (q := (RX1, TX1, 1)) sdX1_secondsLeft (Nat.le_of_ble_eq_true rfl) fX1_secondsLeft rfl rfl iX1_secondsLeft vX1_secondsLeft (by decide +kernel) l11_243 (mj_CsV (D' := 5) (ci := 5) (q := (RX5, TX5, 6)) sdX5_addRace (Nat.le_of_ble_eq_true rfl) fX5_addRace rfl rfl iX5_addRace vX5_addRace (by decide +kernel) l11_324 mj_Cs0)))
def cutX11_race : List (Nat × List Bool) := []
set_option maxRecDepth 100000 in
set_option maxHeartbeats 4000000 in
theorem inX11_race {Ω : mj_Om} {l : Launch} {d : Nat} {Φ : Option Value → mj_M → Prop} (hd : 6 ≤ d) (I : Nat → Nat → Int32) (J : Nat → Nat → Int64)
    (h : ((if (0 : Int32) < (I 39 8) then (if (0 : Int32) < ((I 27 5) - (I 39 9)) then (Φ (some (.int (-1 : Int32))) (mk I J)) else (if (I 86 5) < (40 : Int32) then ((86 = 86 ∧ isCF 26 39 ∧ mj_isk (mk I J)) ∧ ((okF I 39 ∧ lineOk (lv7 (I (26 + 1)))) ∧ (∀ I931 : Nat → Nat → Int32, (I931 86 5 = I 86 5 + 1 ∧ (∀ b, b < nF I 39 → I931 90 b = I 90 b + (nI (place (nF I 39) (lv7 (I (26 + 1))) (I (26 + 1) 6) (VF I 39) b))) ∧ fr (fun c k => c = 90 ∨ (c = 86 ∧ k = 5)) I I931) → (Φ (some (.int (I 86 5 + 1))) (mk I931 J))))) else (Φ (some (.int (-1 : Int32))) (mk I J)))) else (Φ (some (.int (-1 : Int32))) (mk I J))))) :
    mj_Met Ω l false mX11_race d 0 0 [.ref 0] (mk I J) Φ := mj_entry (by decide) rfl (fun h => (by cases h)) (Nat.le_of_ble_eq_true rfl) (mj_blk (μ := mX11_race) (P := pX11_race) (cut := cutX11_race) (cs := csX11_race) dX11_race csX11_race_ok hd 25 0 _ h)
def tX11_race : mj_PT := fun as M Φ => match as with
  | [.ref this] => ((this = 0 ∧ mj_isk M) ∧ (∃ m : Nat, (∃ R : RF, (∃ r : Nat, ((qC M.2.2.1 m R ∧ r ≤ 40 ∧ M.2.2.1 86 5 = nI r) ∧ (∀ I1 : Nat → Nat → Int32, ((raceOk (nF M.2.2.1 39) (lv7 (M.2.2.1 27)) (M.2.2.1 39 9) r → I1 86 5 = nI (r + 1) ∧ ∀ b, b < nF M.2.2.1 39 → I1 90 b = M.2.2.1 90 b + nI (place (nF M.2.2.1 39) (lv7 (M.2.2.1 27)) (lv7 (M.2.2.1 27) 6) (VF M.2.2.1 39) b)) ∧ (¬ raceOk (nF M.2.2.1 39) (lv7 (M.2.2.1 27)) (M.2.2.1 39 9) r → M.2.2.1 = I1) ∧ fr (fun c k => c = 90 ∨ (c = 86 ∧ k = 5)) M.2.2.1 I1) → Φ (some (.int (raceV (nF M.2.2.1 39) (lv7 (M.2.2.1 27)) (M.2.2.1 39 9) r))) (M.1, M.2.1, I1, M.2.2.2)))))))
  | _ => False
set_option maxHeartbeats 4000000 in
theorem mnX11_race {Ω : mj_Om} {l : Launch} {d : Nat} {Φ : Option Value → mj_M → Prop} (hd : 6 ≤ d) (m : Nat) (R : RF) (r : Nat) (I : Nat → Nat → Int32) (J : Nat → Nat → Int64) (hp : qC I m R ∧ r ≤ 40 ∧ I 86 5 = nI r) (h : ∀ I1 : Nat → Nat → Int32, ((raceOk (nF I 39) (lv7 (I 27)) (I 39 9) r → I1 86 5 = nI (r + 1) ∧ ∀ b, b < nF I 39 → I1 90 b = I 90 b + nI (place (nF I 39) (lv7 (I 27)) (lv7 (I 27) 6) (VF I 39) b)) ∧ (¬ raceOk (nF I 39) (lv7 (I 27)) (I 39 9) r → I = I1) ∧ fr (fun c k => c = 90 ∨ (c = 86 ∧ k = 5)) I I1) → Φ (some (.int (raceV (nF I 39) (lv7 (I 27)) (I 39 9) r))) (mk I1 J)) : mj_Met Ω l false mX11_race d 0 0 [.ref 0] (mk I J) Φ := by
  refine inX11_race hd I J ?_
  obtain ⟨hp, hr, h5⟩ := hp
  obtain ⟨⟨hc, hn⟩, hR, hFF⟩ := id hp
  have e5 : I 27 5 = lv7 (I 27) 5 := (lv7_at (by decide)).symm
  have e6 : I 27 6 = lv7 (I 27) 6 := (lv7_at (by decide)).symm
  have hN : ¬ raceOk (nF I 39) (lv7 (I 27)) (I 39 9) r → Φ (some (.int (-1))) (mk I J) := fun q => by
    have := h I ⟨fun w => absurd w q, fun _ => rfl, fr_rf⟩
    unfold raceV at this
    rwa [cif_f q] at this
  rw [hc, e5, h5]
  by_cases q : (0 : Int32) < nI (nF I 39)
  case neg => rw [if_neg q]; rw [pos_n hn] at q; exact hN (fun w => q w.1)
  rw [if_pos q]
  rw [pos_n hn] at q
  by_cases q1 : 0 < lv7 (I 27) 5 - I 39 9
  · rw [if_pos q1]; exact hN (fun w => w.2.1 q1)
  rw [if_neg q1]
  have e40 : (nI r < (40 : Int32)) = (r < 40) := jn_lt (b := 40) (by omega) (by omega)
  by_cases q2 : nI r < (40 : Int32)
  case neg => rw [if_neg q2]; rw [e40] at q2; exact hN (fun w => q2 w.2.2)
  rw [if_pos q2]
  rw [e40] at q2
  have ok : raceOk (nF I 39) (lv7 (I 27)) (I 39 9) r := ⟨q, q1, q2⟩
  refine ⟨⟨by trivial, by unfold isCF; omega, mj_isk_mk _ _⟩, ⟨⟨hc, hn⟩, (hFF q).1⟩, fun A hA => ?_⟩
  obtain ⟨a1, a2, a3⟩ := hA
  have h := h A ⟨fun _ => ⟨by rw [a1, jn_succ], fun b hb => by rw [a2 b hb, e6]⟩, fun w => absurd ok w, a3⟩
  unfold raceV at h
  rw [cif_t ok] at h
  rw [jn_succ]
  exact h
theorem sdX11_race : mj_Sd mX11_race 6 tX11_race := by
  intro Ω l d hd as M Φ h
  unfold tX11_race at h
  split at h
  · rename_i z_this
    obtain ⟨⟨rfl, hM⟩, m, R, r, hp, h⟩ := h
    rw [mj_isk_of hM]
    exact mnX11_race hd m R r _ _ hp (by
      rw [mj_isk_of hM] at h
      exact h)
  · exact h.elim
def csX12_race : List (Nat × Nat × Nat × mj_PT) := [(323, 0, 1, mj_rcv 12 tX12_leftSeconds), (431, 0, 1, mj_rcv 12 tX12_write)]
theorem csX12_race_ok : mj_Cs mX12_race 7 csX12_race := (mj_CsV (D' := 1) (ci := 12) (q := (RX12, TX12, 45)) sdX12_leftSeconds (Nat.le_of_ble_eq_true rfl) fX12_leftSeconds rfl rfl iX12_leftSeconds vX12_leftSeconds (by decide +kernel) l12_323 (mj_CsV (D' := 6) (ci := 12) (q := (RX12, TX12, 45)) sdX12_write (Nat.le_of_ble_eq_true rfl) fX12_write rfl rfl iX12_write vX12_write (by decide +kernel) l12_431 mj_Cs0))
def cutX12_race : List (Nat × List Bool) := []
set_option maxRecDepth 100000 in
set_option maxHeartbeats 4000000 in
theorem inX12_race {Ω : mj_Om} {l : Launch} {d : Nat} {Φ : Option Value → mj_M → Prop} (hd : 7 ≤ d) (I : Nat → Nat → Int32) (J : Nat → Nat → Int64)
    (h : ((if (I 91 22) = (0 : Int32) then (Φ (some (.int (-1 : Int32))) (mk I J)) else (if (0 : Int32) < ((I 104 5) - (I 106 48)) then (Φ (some (.int (-1 : Int32))) (mk I J)) else (if (I 91 42) = (40 : Int32) then (Φ (some (.int (-1 : Int32))) (mk I J)) else ((91 = 91 ∧ mj_isk (mk I J)) ∧ (∃ u937 : Int, (∃ r938 : Nat, ((r938 < 40 ∧ I 91 42 = nI r938 ∧ u937 ≤ 1000 ∧ FM u937 I) ∧ (∀ I939 : Nat → Nat → Int32, (I939 91 42 = nI (r938 + 1) ∧ (∀ b, b < nM I → I939 118 (8 * r938 + b) = nI (place (nM I) (lv7 (I 104)) (I 104 6) (VM I) b)) ∧ fr (fun c k => (c = 118 ∧ 8 * r938 ≤ k) ∨ (c = 91 ∧ k = 42)) I I939) → (Φ (some (.int (I939 91 42))) (mk I939 J)))))))))))) :
    mj_Met Ω l false mX12_race d 0 0 [.ref 91] (mk I J) Φ := mj_entry (by decide) rfl (fun h => (by cases h)) (Nat.le_of_ble_eq_true rfl) (mj_blk (μ := mX12_race) (P := pX12_race) (cut := cutX12_race) (cs := csX12_race) dX12_race csX12_race_ok hd 18 0 _ h)
def tX12_race : mj_PT := fun as M Φ => match as with
  | [.ref this] => ((this = 91 ∧ mj_isk M) ∧ (∃ m : Nat, (∃ R : RF, (∃ r : Nat, ((qM M.2.2.1 m R ∧ r ≤ 40 ∧ M.2.2.1 91 42 = nI r) ∧ (∀ I1 : Nat → Nat → Int32, ((raceOk (nM M.2.2.1) (lv7 (M.2.2.1 104)) (M.2.2.1 106 48) r → I1 91 42 = nI (r + 1) ∧ ∀ b, b < nM M.2.2.1 → I1 118 (8 * r + b) = nI (place (nM M.2.2.1) (lv7 (M.2.2.1 104)) (lv7 (M.2.2.1 104) 6) (VM M.2.2.1) b)) ∧ (¬ raceOk (nM M.2.2.1) (lv7 (M.2.2.1 104)) (M.2.2.1 106 48) r → M.2.2.1 = I1) ∧ fr (fun c k => (c = 118 ∧ 8 * r ≤ k) ∨ (c = 91 ∧ k = 42)) M.2.2.1 I1) → Φ (some (.int (raceV (nM M.2.2.1) (lv7 (M.2.2.1 104)) (M.2.2.1 106 48) r))) (M.1, M.2.1, I1, M.2.2.2)))))))
  | _ => False
set_option maxHeartbeats 4000000 in
theorem mnX12_race {Ω : mj_Om} {l : Launch} {d : Nat} {Φ : Option Value → mj_M → Prop} (hd : 7 ≤ d) (m : Nat) (R : RF) (r : Nat) (I : Nat → Nat → Int32) (J : Nat → Nat → Int64) (hp : qM I m R ∧ r ≤ 40 ∧ I 91 42 = nI r) (h : ∀ I1 : Nat → Nat → Int32, ((raceOk (nM I) (lv7 (I 104)) (I 106 48) r → I1 91 42 = nI (r + 1) ∧ ∀ b, b < nM I → I1 118 (8 * r + b) = nI (place (nM I) (lv7 (I 104)) (lv7 (I 104) 6) (VM I) b)) ∧ (¬ raceOk (nM I) (lv7 (I 104)) (I 106 48) r → I = I1) ∧ fr (fun c k => (c = 118 ∧ 8 * r ≤ k) ∨ (c = 91 ∧ k = 42)) I I1) → Φ (some (.int (raceV (nM I) (lv7 (I 104)) (I 106 48) r))) (mk I1 J)) : mj_Met Ω l false mX12_race d 0 0 [.ref 91] (mk I J) Φ := by
  refine inX12_race hd I J ?_
  obtain ⟨hp, hr, h42⟩ := hp
  obtain ⟨⟨hc, hn⟩, hR, hFF, h25, h26⟩ := id hp
  have e5 : I 104 5 = lv7 (I 104) 5 := (lv7_at (by decide)).symm
  have e6 : I 104 6 = lv7 (I 104) 6 := (lv7_at (by decide)).symm
  have hN : ¬ raceOk (nM I) (lv7 (I 104)) (I 106 48) r → Φ (some (.int (-1))) (mk I J) := fun q => by
    have := h I ⟨fun w => absurd w q, fun _ => rfl, fr_rf⟩
    unfold raceV at this
    rwa [cif_f q] at this
  rw [hc, e5, h42]
  by_cases q : nI (nM I) = 0
  · rw [if_pos q]; rw [zero_n (by omega)] at q; exact hN (fun w => by have := w.1; omega)
  rw [if_neg q]
  rw [zero_n (by omega)] at q
  by_cases q1 : 0 < lv7 (I 104) 5 - I 106 48
  · rw [if_pos q1]; exact hN (fun w => w.2.1 q1)
  rw [if_neg q1]
  have e40 : (nI r = (40 : Int32)) = (r = 40) := jn_eq (b := 40) (by omega) (by omega)
  by_cases q2 : nI r = (40 : Int32)
  · rw [if_pos q2]; rw [e40] at q2; exact hN (fun w => by have := w.2.2; omega)
  rw [if_neg q2]
  rw [e40] at q2
  have ok : raceOk (nM I) (lv7 (I 104)) (I 106 48) r := ⟨by omega, q1, by omega⟩
  refine ⟨⟨by trivial, mj_isk_mk _ _⟩, 19, r, ⟨by omega, rfl, by decide, ⟨hc, hn⟩, hFF (by omega)⟩, fun A hA => ?_⟩
  obtain ⟨a1, a2, a3⟩ := hA
  have h := h A ⟨fun _ => ⟨a1, fun b hb => by rw [a2 b hb, e6]⟩, fun w => absurd ok w, a3⟩
  unfold raceV at h
  rw [cif_t ok] at h
  rw [a1]
  exact h
theorem sdX12_race : mj_Sd mX12_race 7 tX12_race := by
  intro Ω l d hd as M Φ h
  unfold tX12_race at h
  split at h
  · rename_i z_this
    obtain ⟨⟨rfl, hM⟩, m, R, r, hp, h⟩ := h
    rw [mj_isk_of hM]
    exact mnX12_race hd m R r _ _ hp (by
      rw [mj_isk_of hM] at h
      exact h)
  · exact h.elim
