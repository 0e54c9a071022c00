/-! ===== the class's seconds of each sort, to the gun (by program, wip/whole/pg.py) ===== -/
theorem lv7_fr {I I1 : Nat → Nat → Int32} {c : Nat} (h : ∀ k, I1 c k = I c k) : lv7 (I1 c) = lv7 (I c) := by
  funext j
  simp only [lv7, h]
theorem askV_k {n : Nat} {C : Nat → Int32} {R : RF} {F : Vw} {s skip : Int32} {k b : Nat} (h : ¬ k = 2) : askV n C R F s skip k b = F k b := by simp [askV, h]
theorem askV_s {n : Nat} {C : Nat → Int32} {R : RF} {F : Vw} {s : Int32} {b : Nat} : askV n C R F s (nI b) 2 b = F 2 b := by simp [askV]
def csX4_passSecond : List (Nat × Nat × Nat × mj_PT) := [(27, 0, 2, mj_rcv 4 tX4_look), (31, 0, 4, mj_rcv 4 tX4_askRules), (35, 0, 3, mj_rcv 4 tX4_moveAll)]
theorem csX4_passSecond_ok : mj_Cs mX4_passSecond 4 csX4_passSecond := (mj_CsV (D' := 3) (ci := 4) (q := (RX4, TX4, 4)) sdX4_look (Nat.le_of_ble_eq_true rfl) fX4_look rfl rfl iX4_look vX4_look (by decide +kernel) l4_27 (mj_CsV (D' := 3) (ci := 4) (q := (RX4, TX4, 4)) sdX4_askRules (Nat.le_of_ble_eq_true rfl) fX4_askRules rfl rfl iX4_askRules vX4_askRules (by decide +kernel) l4_31 (mj_CsV (D' := 3) (ci := 4) (q := (RX4, TX4, 4)) sdX4_moveAll (Nat.le_of_ble_eq_true rfl) fX4_moveAll rfl rfl iX4_moveAll vX4_moveAll (by decide +kernel) l4_35 mj_Cs0)))
def cutX4_passSecond : List (Nat × List Bool) := []
set_option maxRecDepth 100000 in
set_option maxHeartbeats 4000000 in
theorem inX4_passSecond {Ω : mj_Om} {l : Launch} {d : Nat} {Φ : Option Value → mj_M → Prop} (hd : 4 ≤ d) (c f : Nat) (hf : isCF c f) (I : Nat → Nat → Int32) (J : Nat → Nat → Int64)
    (h : (((75 = 75 ∧ isF3 f ∧ mj_isk (mk I J)) ∧ ((okF I f) ∧ (∀ I95 : Nat → Nat → Int32, ((∀ b, b < nF I f → I95 77 b = shV (nF I f) (VF I f) b ∧ I95 78 b = nI (ordN (nF I f) (VF I f 1) b)) ∧ fr (fun c _ => c = 77 ∨ c = 78) I I95) → ((75 = 75 ∧ isCF c f ∧ mj_isk (mk I95 J)) ∧ (∃ u97 : Int, (∃ m98 : Nat, (∃ R99 : RF, ((u97 ≤ 1000 ∧ FC u97 I95 c f ∧ RuC I95 m98 R99 ∧ (∀ b, b < nF I95 f → I95 77 b = shV (nF I95 f) (VF I95 f) b)) ∧ (∀ I100 : Nat → Nat → Int32, (VF I100 f = askV (nF I95 f) (lv7 (I95 (c + 1))) R99 (VF I95 f) (I95 f 9) (-1 : Int32) ∧ fr (fun c _ => c = f + 3 ∨ c = 76 ∨ c = 10) I95 I100) → ((75 = 75 ∧ isCF c f ∧ mj_isk (mk I100 J)) ∧ (∃ B102 : Nat → Int32, ((okF I100 f ∧ lineOk (lv7 (I100 (c + 1))) ∧ (∀ k, k < nF I100 f → I100 78 k = nI (ordN (nF I100 f) B102 k))) ∧ (∀ I103 : Nat → Nat → Int32, (VF I103 f = moveV (nF I100 f) (lv7 (I100 (c + 1))) (I100 77) B102 (VF I100 f) (I100 f 9) ∧ I103 f 9 = I100 f 9 + 1 ∧ fr (fun c k => (f + 1 ≤ c ∧ c ≤ f + 8) ∨ (c = f ∧ k = 9)) I100 I103) → (Φ none (mk I103 J))))))))))))))))) :
    mj_Met Ω l false mX4_passSecond d 0 0 [.ref 75, .ref c, .ref f] (mk I J) Φ := by
  rcases hf with ⟨rfl, rfl⟩ | ⟨rfl, rfl⟩ | ⟨rfl, rfl⟩ | ⟨rfl, rfl⟩ <;> exact mj_entry (by decide) rfl (fun h => (by cases h)) (Nat.le_of_ble_eq_true rfl) (mj_blk (μ := mX4_passSecond) (P := pX4_passSecond) (cut := cutX4_passSecond) (cs := csX4_passSecond) dX4_passSecond csX4_passSecond_ok hd 14 0 _ h)
def tX4_passSecond : mj_PT := fun as M Φ => match as with
  | [.ref this, .ref c_, .ref f_] => ((this = 75 ∧ isCF c_ f_ ∧ mj_isk M) ∧ (∃ u : Int, (∃ m : Nat, (∃ R : RF, ((u ≤ 1000 ∧ FC u M.2.2.1 c_ f_ ∧ RuC M.2.2.1 m R) ∧ (∀ I1 : Nat → Nat → Int32, (VF I1 f_ = passV (nF M.2.2.1 f_) (lv7 (M.2.2.1 (c_ + 1))) R (VF M.2.2.1 f_) (M.2.2.1 f_ 9) ∧ I1 f_ 9 = (M.2.2.1 f_ 9) + 1 ∧ fr (fun c k => (f_ + 1 ≤ c ∧ c ≤ f_ + 8) ∨ (c = f_ ∧ k = 9) ∨ c = 10 ∨ (76 ≤ c ∧ c ≤ 78)) M.2.2.1 I1) → Φ none (M.1, M.2.1, I1, M.2.2.2)))))))
  | _ => False
set_option maxHeartbeats 4000000 in
theorem mnX4_passSecond {Ω : mj_Om} {l : Launch} {d : Nat} {Φ : Option Value → mj_M → Prop} (hd : 4 ≤ d) (c f : Nat) (hf : isCF c f) (u : Int) (m : Nat) (R : RF) (I : Nat → Nat → Int32) (J : Nat → Nat → Int64) (hp : u ≤ 1000 ∧ FC u I c f ∧ RuC I m R) (h : ∀ I1 : Nat → Nat → Int32, (VF I1 f = passV (nF I f) (lv7 (I (c + 1))) R (VF I f) (I f 9) ∧ I1 f 9 = (I f 9) + 1 ∧ fr (fun c k => (f + 1 ≤ c ∧ c ≤ f + 8) ∨ (c = f ∧ k = 9) ∨ c = 10 ∨ (76 ≤ c ∧ c ≤ 78)) I I1) → Φ none (mk I1 J)) : mj_Met Ω l false mX4_passSecond d 0 0 [.ref 75, .ref c, .ref f] (mk I J) Φ := by
  refine inX4_passSecond hd c f hf I J ?_
  obtain ⟨hu, ⟨hc, hF⟩, hR⟩ := hp
  have hcf := isCF_b hf
  refine ⟨⟨by trivial, isCF_f hf, mj_isk_mk _ _⟩, hc, fun A1 h1 => ?_⟩
  obtain ⟨h1a, h1f⟩ := h1
  obtain ⟨n1, V1, o1, s1⟩ := FF_fr (I := I) (I1 := A1) (f := f) (fun a k q1 q2 => h1f a k (by (try dsimp only); omega))
  have C1 : lv7 (A1 (c + 1)) = lv7 (I (c + 1)) := lv7_fr (fun k => h1f (c + 1) k (by (try dsimp only); omega))
  refine ⟨⟨by trivial, hf, mj_isk_mk _ _⟩, u, m, R, ⟨hu, ⟨o1 hc, by rw [n1, V1, C1, s1]; exact hF⟩, RuC_fr hR (fun a k q1 q2 => h1f a k (by (try dsimp only); omega)), fun b hb => by rw [n1, V1] at *; exact (h1a b hb).1⟩, fun A2 h2 => ?_⟩
  obtain ⟨h2a, h2f⟩ := h2
  rw [n1, C1, V1, s1] at h2a
  have n2 : A2 f 8 = I f 8 ∧ nF A2 f = nF I f := by
    obtain ⟨w1, w2⟩ := fr_n h2f (f := f) (by (try dsimp only); omega)
    rw [w1, w2, n1, h1f f 8 (by (try dsimp only); omega)]
    exact ⟨rfl, rfl⟩
  have o2 : okF A2 f := fr_okF h2f (f := f) (by (try dsimp only); omega) (o1 hc)
  have C2 : lv7 (A2 (c + 1)) = lv7 (I (c + 1)) := by rw [lv7_fr (fun k => h2f (c + 1) k (by (try dsimp only); omega)), C1]
  have s2 : A2 f 9 = I f 9 := by rw [h2f f 9 (by (try dsimp only); omega), s1]
  have f2 : fr (fun c k => (f + 1 ≤ c ∧ c ≤ f + 8) ∨ (c = f ∧ k = 9) ∨ c = 10 ∨ (76 ≤ c ∧ c ≤ 78)) I A2 := fun a k w => by
    try dsimp only at w
    rw [h2f a k (by (try dsimp only); omega), h1f a k (by (try dsimp only); omega)]
  have a77 : ∀ b, b < nF I f → A2 77 b = shV (nF I f) (VF I f) b := fun b hb => by
    rw [h2f 77 b (by (try dsimp only); omega)]
    exact (h1a b hb).1
  have a78 : ∀ b, b < nF I f → A2 78 b = nI (ordN (nF I f) (VF I f 1) b) := fun b hb => by
    rw [h2f 78 b (by (try dsimp only); omega)]
    exact (h1a b hb).2
  have oA := o2
  have nA := n2.2
  have CA := C2
  have sA := s2
  have b77 := a77
  have b78 := a78
  have VA := h2a
  have fA := f2
  refine ⟨⟨by trivial, hf, mj_isk_mk _ _⟩, VF I f 1, ⟨oA, by rw [CA]; exact hF.1, fun k hk => by rw [nA] at hk ⊢; exact b78 k hk⟩, fun A9 h9 => ?_⟩
  obtain ⟨h9a, h9b, h9f⟩ := h9
  rw [nA, CA, VA, sA, moveV_c (Sh' := shV (nF I f) (VF I f)) (B' := VF I f 1) b77 (fun _ _ => rfl)] at h9a
  rw [sA] at h9b
  have f9 : fr (fun c k => (f + 1 ≤ c ∧ c ≤ f + 8) ∨ (c = f ∧ k = 9) ∨ c = 10 ∨ (76 ≤ c ∧ c ≤ 78)) I A9 := fun a k w => by
    try dsimp only at w
    rw [h9f a k (by (try dsimp only); omega), fA a k w]
  exact h A9 ⟨h9a, h9b, f9⟩
theorem sdX4_passSecond : mj_Sd mX4_passSecond 4 tX4_passSecond := by
  intro Ω l d hd as M Φ h
  unfold tX4_passSecond at h
  split at h
  · rename_i z_this c f
    obtain ⟨⟨rfl, hf, hM⟩, u, m, R, hp, h⟩ := h
    rw [mj_isk_of hM]
    exact mnX4_passSecond hd c f hf u m R _ _ hp (by
      rw [mj_isk_of hM] at h
      exact h)
  · exact h.elim
def csX4_passGustySecond : List (Nat × Nat × Nat × mj_PT) := [(27, 0, 2, mj_rcv 4 tX4_look), (31, 0, 4, mj_rcv 4 tX4_askRules), (35, 0, 3, mj_rcv 4 tX4_moveAll), (39, 0, 4, mj_rcv 4 tX4_drawGusts)]
theorem csX4_passGustySecond_ok : mj_Cs mX4_passGustySecond 4 csX4_passGustySecond := (mj_CsV (D' := 3) (ci := 4) (q := (RX4, TX4, 4)) sdX4_look (Nat.le_of_ble_eq_true rfl) fX4_look rfl rfl iX4_look vX4_look (by decide +kernel) l4_27 (mj_CsV (D' := 3) (ci := 4) (q := (RX4, TX4, 4)) sdX4_askRules (Nat.le_of_ble_eq_true rfl) fX4_askRules rfl rfl iX4_askRules vX4_askRules (by decide +kernel) l4_31 (mj_CsV (D' := 3) (ci := 4) (q := (RX4, TX4, 4)) sdX4_moveAll (Nat.le_of_ble_eq_true rfl) fX4_moveAll rfl rfl iX4_moveAll vX4_moveAll (by decide +kernel) l4_35 (mj_CsV (D' := 2) (ci := 4) (q := (RX4, TX4, 4)) sdX4_drawGusts (Nat.le_of_ble_eq_true rfl) fX4_drawGusts rfl rfl iX4_drawGusts vX4_drawGusts (by decide +kernel) l4_39 mj_Cs0))))
def cutX4_passGustySecond : List (Nat × List Bool) := []
set_option maxRecDepth 100000 in
set_option maxHeartbeats 4000000 in
theorem inX4_passGustySecond {Ω : mj_Om} {l : Launch} {d : Nat} {Φ : Option Value → mj_M → Prop} (hd : 4 ≤ d) (c f : Nat) (hf : isCF c f) (g : Int32) (I : Nat → Nat → Int32) (J : Nat → Nat → Int64)
    (h : (((75 = 75 ∧ isF3 f ∧ mj_isk (mk I J)) ∧ ((okF I f) ∧ (∀ I117 : Nat → Nat → Int32, ((∀ b, b < nF I f → I117 77 b = shV (nF I f) (VF I f) b ∧ I117 78 b = nI (ordN (nF I f) (VF I f 1) b)) ∧ fr (fun c _ => c = 77 ∨ c = 78) I I117) → ((75 = 75 ∧ isCF c f ∧ mj_isk (mk I117 J)) ∧ (∃ u119 : Int, (∃ m120 : Nat, (∃ R121 : RF, ((u119 ≤ 1000 ∧ FC u119 I117 c f ∧ RuC I117 m120 R121 ∧ (∀ b, b < nF I117 f → I117 77 b = shV (nF I117 f) (VF I117 f) b)) ∧ (∀ I122 : Nat → Nat → Int32, (VF I122 f = askV (nF I117 f) (lv7 (I117 (c + 1))) R121 (VF I117 f) (I117 f 9) (-1 : Int32) ∧ fr (fun c _ => c = f + 3 ∨ c = 76 ∨ c = 10) I117 I122) → ((75 = 75 ∧ 79 = 79 ∧ isF3 f ∧ mj_isk (mk I122 J)) ∧ ((okF I122 f) ∧ (∀ I124 : Nat → Nat → Int32, ∀ J125 : Nat → Nat → Int64, (VF I124 f = (gustN g (nF I122 f) (VF I122 f, J 79 0)).1 ∧ J125 = mj_ul J 79 0 (gustN g (nF I122 f) (VF I122 f, J 79 0)).2 ∧ fr (fun c _ => c = f + 3) I122 I124) → ((75 = 75 ∧ isCF c f ∧ mj_isk (mk I124 J125)) ∧ (∃ B126 : Nat → Int32, ((okF I124 f ∧ lineOk (lv7 (I124 (c + 1))) ∧ (∀ k, k < nF I124 f → I124 78 k = nI (ordN (nF I124 f) B126 k))) ∧ (∀ I127 : Nat → Nat → Int32, (VF I127 f = moveV (nF I124 f) (lv7 (I124 (c + 1))) (I124 77) B126 (VF I124 f) (I124 f 9) ∧ I127 f 9 = I124 f 9 + 1 ∧ fr (fun c k => (f + 1 ≤ c ∧ c ≤ f + 8) ∨ (c = f ∧ k = 9)) I124 I127) → (Φ none (mk I127 J125)))))))))))))))))))) :
    mj_Met Ω l false mX4_passGustySecond d 0 0 [.ref 75, .ref c, .ref f, .ref 79, .int g] (mk I J) Φ := by
  rcases hf with ⟨rfl, rfl⟩ | ⟨rfl, rfl⟩ | ⟨rfl, rfl⟩ | ⟨rfl, rfl⟩ <;> exact mj_entry (by decide) rfl (fun h => (by cases h)) (Nat.le_of_ble_eq_true rfl) (mj_blk (μ := mX4_passGustySecond) (P := pX4_passGustySecond) (cut := cutX4_passGustySecond) (cs := csX4_passGustySecond) dX4_passGustySecond csX4_passGustySecond_ok hd 19 0 _ h)
def tX4_passGustySecond : mj_PT := fun as M Φ => match as with
  | [.ref this, .ref c_, .ref f_, .ref q_, .int g] => ((this = 75 ∧ q_ = 79 ∧ isCF c_ f_ ∧ mj_isk M) ∧ (∃ u : Int, (∃ m : Nat, (∃ R : RF, ((u ≤ 1000 ∧ FC u M.2.2.1 c_ f_ ∧ RuC M.2.2.1 m R) ∧ (∀ I1 : Nat → Nat → Int32, ∀ J1 : Nat → Nat → Int64, ((VF I1 f_, J1 79 0) = (moveV (nF M.2.2.1 f_) (lv7 (M.2.2.1 (c_ + 1))) (shV (nF M.2.2.1 f_) (VF M.2.2.1 f_)) ((VF M.2.2.1 f_) 1) (gustN g (nF M.2.2.1 f_) (askV (nF M.2.2.1 f_) (lv7 (M.2.2.1 (c_ + 1))) R (VF M.2.2.1 f_) (M.2.2.1 f_ 9) (-1), M.2.2.2 79 0)).1 (M.2.2.1 f_ 9), (gustN g (nF M.2.2.1 f_) (askV (nF M.2.2.1 f_) (lv7 (M.2.2.1 (c_ + 1))) R (VF M.2.2.1 f_) (M.2.2.1 f_ 9) (-1), M.2.2.2 79 0)).2) ∧ (∃ y, J1 = mj_ul M.2.2.2 79 0 y) ∧ I1 f_ 9 = (M.2.2.1 f_ 9) + 1 ∧ fr (fun c k => (f_ + 1 ≤ c ∧ c ≤ f_ + 8) ∨ (c = f_ ∧ k = 9) ∨ c = 10 ∨ (76 ≤ c ∧ c ≤ 78)) M.2.2.1 I1) → Φ none (M.1, M.2.1, I1, J1)))))))
  | _ => False
set_option maxHeartbeats 4000000 in
theorem mnX4_passGustySecond {Ω : mj_Om} {l : Launch} {d : Nat} {Φ : Option Value → mj_M → Prop} (hd : 4 ≤ d) (c f : Nat) (hf : isCF c f) (g : Int32) (u : Int) (m : Nat) (R : RF) (I : Nat → Nat → Int32) (J : Nat → Nat → Int64) (hp : u ≤ 1000 ∧ FC u I c f ∧ RuC I m R) (h : ∀ I1 : Nat → Nat → Int32, ∀ J1 : Nat → Nat → Int64, ((VF I1 f, J1 79 0) = (moveV (nF I f) (lv7 (I (c + 1))) (shV (nF I f) (VF I f)) ((VF I f) 1) (gustN g (nF I f) (askV (nF I f) (lv7 (I (c + 1))) R (VF I f) (I f 9) (-1), J 79 0)).1 (I f 9), (gustN g (nF I f) (askV (nF I f) (lv7 (I (c + 1))) R (VF I f) (I f 9) (-1), J 79 0)).2) ∧ (∃ y, J1 = mj_ul J 79 0 y) ∧ I1 f 9 = (I f 9) + 1 ∧ fr (fun c k => (f + 1 ≤ c ∧ c ≤ f + 8) ∨ (c = f ∧ k = 9) ∨ c = 10 ∨ (76 ≤ c ∧ c ≤ 78)) I I1) → Φ none (mk I1 J1)) : mj_Met Ω l false mX4_passGustySecond d 0 0 [.ref 75, .ref c, .ref f, .ref 79, .int g] (mk I J) Φ := by
  refine inX4_passGustySecond hd c f hf g I J ?_
  obtain ⟨hu, ⟨hc, hF⟩, hR⟩ := hp
  have hcf := isCF_b hf
  refine ⟨⟨by trivial, isCF_f hf, mj_isk_mk _ _⟩, hc, fun A1 h1 => ?_⟩
  obtain ⟨h1a, h1f⟩ := h1
  obtain ⟨n1, V1, o1, s1⟩ := FF_fr (I := I) (I1 := A1) (f := f) (fun a k q1 q2 => h1f a k (by (try dsimp only); omega))
  have C1 : lv7 (A1 (c + 1)) = lv7 (I (c + 1)) := lv7_fr (fun k => h1f (c + 1) k (by (try dsimp only); omega))
  refine ⟨⟨by trivial, hf, mj_isk_mk _ _⟩, u, m, R, ⟨hu, ⟨o1 hc, by rw [n1, V1, C1, s1]; exact hF⟩, RuC_fr hR (fun a k q1 q2 => h1f a k (by (try dsimp only); omega)), fun b hb => by rw [n1, V1] at *; exact (h1a b hb).1⟩, fun A2 h2 => ?_⟩
  obtain ⟨h2a, h2f⟩ := h2
  rw [n1, C1, V1, s1] at h2a
  have n2 : A2 f 8 = I f 8 ∧ nF A2 f = nF I f := by
    obtain ⟨w1, w2⟩ := fr_n h2f (f := f) (by (try dsimp only); omega)
    rw [w1, w2, n1, h1f f 8 (by (try dsimp only); omega)]
    exact ⟨rfl, rfl⟩
  have o2 : okF A2 f := fr_okF h2f (f := f) (by (try dsimp only); omega) (o1 hc)
  have C2 : lv7 (A2 (c + 1)) = lv7 (I (c + 1)) := by rw [lv7_fr (fun k => h2f (c + 1) k (by (try dsimp only); omega)), C1]
  have s2 : A2 f 9 = I f 9 := by rw [h2f f 9 (by (try dsimp only); omega), s1]
  have f2 : fr (fun c k => (f + 1 ≤ c ∧ c ≤ f + 8) ∨ (c = f ∧ k = 9) ∨ c = 10 ∨ (76 ≤ c ∧ c ≤ 78)) I A2 := fun a k w => by
    try dsimp only at w
    rw [h2f a k (by (try dsimp only); omega), h1f a k (by (try dsimp only); omega)]
  have a77 : ∀ b, b < nF I f → A2 77 b = shV (nF I f) (VF I f) b := fun b hb => by
    rw [h2f 77 b (by (try dsimp only); omega)]
    exact (h1a b hb).1
  have a78 : ∀ b, b < nF I f → A2 78 b = nI (ordN (nF I f) (VF I f 1) b) := fun b hb => by
    rw [h2f 78 b (by (try dsimp only); omega)]
    exact (h1a b hb).2
  refine ⟨⟨by trivial, by trivial, isCF_f hf, mj_isk_mk _ _⟩, o2, fun A3 J3 h3 => ?_⟩
  obtain ⟨h3a, h3j, h3f⟩ := h3
  rw [n2.2, h2a] at h3a h3j
  have oA : okF A3 f := fr_okF h3f (f := f) (by (try dsimp only); omega) o2
  have nA : nF A3 f = nF I f := by rw [(fr_n h3f (f := f) (by (try dsimp only); omega)).2]; exact n2.2
  have CA : lv7 (A3 (c + 1)) = lv7 (I (c + 1)) := by rw [lv7_fr (fun k => h3f (c + 1) k (by (try dsimp only); omega)), C2]
  have sA : A3 f 9 = I f 9 := by rw [h3f f 9 (by (try dsimp only); omega), s2]
  have b77 : ∀ b, b < nF I f → A3 77 b = shV (nF I f) (VF I f) b := fun b hb => by rw [h3f 77 b (by (try dsimp only); omega)]; exact a77 b hb
  have b78 : ∀ b, b < nF I f → A3 78 b = nI (ordN (nF I f) (VF I f 1) b) := fun b hb => by rw [h3f 78 b (by (try dsimp only); omega)]; exact a78 b hb
  have VA := h3a
  have fA : fr (fun c k => (f + 1 ≤ c ∧ c ≤ f + 8) ∨ (c = f ∧ k = 9) ∨ c = 10 ∨ (76 ≤ c ∧ c ≤ 78)) I A3 := fun a k w => by
    try dsimp only at w
    rw [h3f a k (by (try dsimp only); omega), f2 a k w]
  refine ⟨⟨by trivial, hf, mj_isk_mk _ _⟩, VF I f 1, ⟨oA, by rw [CA]; exact hF.1, fun k hk => by rw [nA] at hk ⊢; exact b78 k hk⟩, fun A9 h9 => ?_⟩
  obtain ⟨h9a, h9b, h9f⟩ := h9
  rw [nA, CA, VA, sA, moveV_c (Sh' := shV (nF I f) (VF I f)) (B' := VF I f 1) b77 (fun _ _ => rfl)] at h9a
  rw [sA] at h9b
  have f9 : fr (fun c k => (f + 1 ≤ c ∧ c ≤ f + 8) ∨ (c = f ∧ k = 9) ∨ c = 10 ∨ (76 ≤ c ∧ c ≤ 78)) I A9 := fun a k w => by
    try dsimp only at w
    rw [h9f a k (by (try dsimp only); omega), fA a k w]
  exact h A9 J3 ⟨by rw [h9a, h3j, ul_s], ⟨_, h3j⟩, h9b, f9⟩
theorem sdX4_passGustySecond : mj_Sd mX4_passGustySecond 4 tX4_passGustySecond := by
  intro Ω l d hd as M Φ h
  unfold tX4_passGustySecond at h
  split at h
  · rename_i z_this c f z_q g
    obtain ⟨⟨rfl, rfl, hf, hM⟩, u, m, R, hp, h⟩ := h
    rw [mj_isk_of hM]
    exact mnX4_passGustySecond hd c f hf g u m R _ _ hp (by
      rw [mj_isk_of hM] at h
      exact h)
  · exact h.elim
def csX4_passHeldSecond : List (Nat × Nat × Nat × mj_PT) := [(27, 0, 2, mj_rcv 4 tX4_look), (31, 0, 4, mj_rcv 4 tX4_askRules), (35, 0, 3, mj_rcv 4 tX4_moveAll)]
theorem csX4_passHeldSecond_ok : mj_Cs mX4_passHeldSecond 4 csX4_passHeldSecond := (mj_CsV (D' := 3) (ci := 4) (q := (RX4, TX4, 4)) sdX4_look (Nat.le_of_ble_eq_true rfl) fX4_look rfl rfl iX4_look vX4_look (by decide +kernel) l4_27 (mj_CsV (D' := 3) (ci := 4) (q := (RX4, TX4, 4)) sdX4_askRules (Nat.le_of_ble_eq_true rfl) fX4_askRules rfl rfl iX4_askRules vX4_askRules (by decide +kernel) l4_31 (mj_CsV (D' := 3) (ci := 4) (q := (RX4, TX4, 4)) sdX4_moveAll (Nat.le_of_ble_eq_true rfl) fX4_moveAll rfl rfl iX4_moveAll vX4_moveAll (by decide +kernel) l4_35 mj_Cs0)))
def cutX4_passHeldSecond : List (Nat × List Bool) := []
set_option maxRecDepth 100000 in
set_option maxHeartbeats 4000000 in
theorem inX4_passHeldSecond {Ω : mj_Om} {l : Launch} {d : Nat} {Φ : Option Value → mj_M → Prop} (hd : 4 ≤ d) (c f : Nat) (hf : isCF c f) (b_ : Int32) (I : Nat → Nat → Int32) (J : Nat → Nat → Int64)
    (h : (((75 = 75 ∧ isF3 f ∧ mj_isk (mk I J)) ∧ ((okF I f) ∧ (∀ I139 : Nat → Nat → Int32, ((∀ b, b < nF I f → I139 77 b = shV (nF I f) (VF I f) b ∧ I139 78 b = nI (ordN (nF I f) (VF I f 1) b)) ∧ fr (fun c _ => c = 77 ∨ c = 78) I I139) → ((75 = 75 ∧ isCF c f ∧ mj_isk (mk I139 J)) ∧ (∃ u141 : Int, (∃ m142 : Nat, (∃ R143 : RF, ((u141 ≤ 1000 ∧ FC u141 I139 c f ∧ RuC I139 m142 R143 ∧ (∀ b, b < nF I139 f → I139 77 b = shV (nF I139 f) (VF I139 f) b)) ∧ (∀ I144 : Nat → Nat → Int32, (VF I144 f = askV (nF I139 f) (lv7 (I139 (c + 1))) R143 (VF I139 f) (I139 f 9) b_ ∧ fr (fun c _ => c = f + 3 ∨ c = 76 ∨ c = 10) I139 I144) → (mj_gd (mj_inB b_ 8) ((75 = 75 ∧ isCF c f ∧ mj_isk (mk (mj_ui I144 (f + 3) (b_).toNatClampNeg (0 : Int32)) J)) ∧ (∃ B146 : Nat → Int32, ((okF (mj_ui I144 (f + 3) (b_).toNatClampNeg (0 : Int32)) f ∧ lineOk (lv7 ((mj_ui I144 (f + 3) (b_).toNatClampNeg (0 : Int32)) (c + 1))) ∧ (∀ k, k < nF (mj_ui I144 (f + 3) (b_).toNatClampNeg (0 : Int32)) f → (mj_ui I144 (f + 3) (b_).toNatClampNeg (0 : Int32)) 78 k = nI (ordN (nF (mj_ui I144 (f + 3) (b_).toNatClampNeg (0 : Int32)) f) B146 k))) ∧ (∀ I147 : Nat → Nat → Int32, (VF I147 f = moveV (nF (mj_ui I144 (f + 3) (b_).toNatClampNeg (0 : Int32)) f) (lv7 ((mj_ui I144 (f + 3) (b_).toNatClampNeg (0 : Int32)) (c + 1))) ((mj_ui I144 (f + 3) (b_).toNatClampNeg (0 : Int32)) 77) B146 (VF (mj_ui I144 (f + 3) (b_).toNatClampNeg (0 : Int32)) f) ((mj_ui I144 (f + 3) (b_).toNatClampNeg (0 : Int32)) f 9) ∧ I147 f 9 = (mj_ui I144 (f + 3) (b_).toNatClampNeg (0 : Int32)) f 9 + 1 ∧ fr (fun c k => (f + 1 ≤ c ∧ c ≤ f + 8) ∨ (c = f ∧ k = 9)) (mj_ui I144 (f + 3) (b_).toNatClampNeg (0 : Int32)) I147) → (Φ none (mk I147 J)))))))))))))))))) :
    mj_Met Ω l false mX4_passHeldSecond d 0 0 [.ref 75, .ref c, .ref f, .int b_] (mk I J) Φ := by
  rcases hf with ⟨rfl, rfl⟩ | ⟨rfl, rfl⟩ | ⟨rfl, rfl⟩ | ⟨rfl, rfl⟩ <;> exact mj_entry (by decide) rfl (fun h => (by cases h)) (Nat.le_of_ble_eq_true rfl) (mj_blk (μ := mX4_passHeldSecond) (P := pX4_passHeldSecond) (cut := cutX4_passHeldSecond) (cs := csX4_passHeldSecond) dX4_passHeldSecond csX4_passHeldSecond_ok hd 19 0 _ h)
def tX4_passHeldSecond : mj_PT := fun as M Φ => match as with
  | [.ref this, .ref c_, .ref f_, .int b_] => ((this = 75 ∧ isCF c_ f_ ∧ mj_isk M) ∧ (∃ b : Nat, b_ = nI b ∧ (∃ u : Int, (∃ m : Nat, (∃ R : RF, ((u ≤ 1000 ∧ FC u M.2.2.1 c_ f_ ∧ RuC M.2.2.1 m R ∧ b < nF M.2.2.1 f_) ∧ (∀ I1 : Nat → Nat → Int32, (VF I1 f_ = passH (nF M.2.2.1 f_) (lv7 (M.2.2.1 (c_ + 1))) R b (VF M.2.2.1 f_) (M.2.2.1 f_ 9) ∧ I1 f_ 9 = (M.2.2.1 f_ 9) + 1 ∧ fr (fun c k => (f_ + 1 ≤ c ∧ c ≤ f_ + 8) ∨ (c = f_ ∧ k = 9) ∨ c = 10 ∨ (76 ≤ c ∧ c ≤ 78)) M.2.2.1 I1) → Φ none (M.1, M.2.1, I1, M.2.2.2))))))))
  | _ => False
set_option maxHeartbeats 4000000 in
theorem mnX4_passHeldSecond {Ω : mj_Om} {l : Launch} {d : Nat} {Φ : Option Value → mj_M → Prop} (hd : 4 ≤ d) (c f : Nat) (hf : isCF c f) (b : Nat) (u : Int) (m : Nat) (R : RF) (I : Nat → Nat → Int32) (J : Nat → Nat → Int64) (hp : u ≤ 1000 ∧ FC u I c f ∧ RuC I m R ∧ b < nF I f) (h : ∀ I1 : Nat → Nat → Int32, (VF I1 f = passH (nF I f) (lv7 (I (c + 1))) R b (VF I f) (I f 9) ∧ I1 f 9 = (I f 9) + 1 ∧ fr (fun c k => (f + 1 ≤ c ∧ c ≤ f + 8) ∨ (c = f ∧ k = 9) ∨ c = 10 ∨ (76 ≤ c ∧ c ≤ 78)) I I1) → Φ none (mk I1 J)) : mj_Met Ω l false mX4_passHeldSecond d 0 0 [.ref 75, .ref c, .ref f, .int (nI b)] (mk I J) Φ := by
  refine inX4_passHeldSecond hd c f hf (nI b) I J ?_
  obtain ⟨hu, ⟨hc, hF⟩, hR, hb⟩ := hp
  have hcf := isCF_b hf
  have hn := hc.2
  refine ⟨⟨by trivial, isCF_f hf, mj_isk_mk _ _⟩, hc, fun A1 h1 => ?_⟩
  obtain ⟨h1a, h1f⟩ := h1
  obtain ⟨n1, V1, o1, s1⟩ := FF_fr (I := I) (I1 := A1) (f := f) (fun a k q1 q2 => h1f a k (by (try dsimp only); omega))
  have C1 : lv7 (A1 (c + 1)) = lv7 (I (c + 1)) := lv7_fr (fun k => h1f (c + 1) k (by (try dsimp only); omega))
  refine ⟨⟨by trivial, hf, mj_isk_mk _ _⟩, u, m, R, ⟨hu, ⟨o1 hc, by rw [n1, V1, C1, s1]; exact hF⟩, RuC_fr hR (fun a k q1 q2 => h1f a k (by (try dsimp only); omega)), fun b hb => by rw [n1, V1] at *; exact (h1a b hb).1⟩, fun A2 h2 => ?_⟩
  obtain ⟨h2a, h2f⟩ := h2
  rw [n1, C1, V1, s1] at h2a
  have n2 : A2 f 8 = I f 8 ∧ nF A2 f = nF I f := by
    obtain ⟨w1, w2⟩ := fr_n h2f (f := f) (by (try dsimp only); omega)
    rw [w1, w2, n1, h1f f 8 (by (try dsimp only); omega)]
    exact ⟨rfl, rfl⟩
  have o2 : okF A2 f := fr_okF h2f (f := f) (by (try dsimp only); omega) (o1 hc)
  have C2 : lv7 (A2 (c + 1)) = lv7 (I (c + 1)) := by rw [lv7_fr (fun k => h2f (c + 1) k (by (try dsimp only); omega)), C1]
  have s2 : A2 f 9 = I f 9 := by rw [h2f f 9 (by (try dsimp only); omega), s1]
  have f2 : fr (fun c k => (f + 1 ≤ c ∧ c ≤ f + 8) ∨ (c = f ∧ k = 9) ∨ c = 10 ∨ (76 ≤ c ∧ c ≤ 78)) I A2 := fun a k w => by
    try dsimp only at w
    rw [h2f a k (by (try dsimp only); omega), h1f a k (by (try dsimp only); omega)]
  have a77 : ∀ b, b < nF I f → A2 77 b = shV (nF I f) (VF I f) b := fun b hb => by
    rw [h2f 77 b (by (try dsimp only); omega)]
    exact (h1a b hb).1
  have a78 : ∀ b, b < nF I f → A2 78 b = nI (ordN (nF I f) (VF I f 1) b) := fun b hb => by
    rw [h2f 78 b (by (try dsimp only); omega)]
    exact (h1a b hb).2
  simp (disch := omega) only [jn_in, jn_cl, gd_dec]
  have hA : fr (fun c _ => c = f + 3) A2 (mj_ui A2 (f + 3) b 0) := fr_ui fr_rf rfl
  have VA : VF (mj_ui A2 (f + 3) b 0) f = vup (askV (nF I f) (lv7 (I (c + 1))) R (VF I f) (I f 9) (nI b)) 2 b 0 := by rw [VFu_2 (by omega), h2a]
  generalize mj_ui A2 (f + 3) b 0 = A3 at hA VA ⊢
  have oA : okF A3 f := fr_okF hA (f := f) (by (try dsimp only); omega) o2
  have nA : nF A3 f = nF I f := by rw [(fr_n hA (f := f) (by (try dsimp only); omega)).2]; exact n2.2
  have CA : lv7 (A3 (c + 1)) = lv7 (I (c + 1)) := by rw [lv7_fr (fun k => hA (c + 1) k (by (try dsimp only); omega)), C2]
  have sA : A3 f 9 = I f 9 := by rw [hA f 9 (by (try dsimp only); omega), s2]
  have b77 : ∀ b, b < nF I f → A3 77 b = shV (nF I f) (VF I f) b := fun b hb => by rw [hA 77 b (by (try dsimp only); omega)]; exact a77 b hb
  have b78 : ∀ b, b < nF I f → A3 78 b = nI (ordN (nF I f) (VF I f 1) b) := fun b hb => by rw [hA 78 b (by (try dsimp only); omega)]; exact a78 b hb
  have fA : fr (fun c k => (f + 1 ≤ c ∧ c ≤ f + 8) ∨ (c = f ∧ k = 9) ∨ c = 10 ∨ (76 ≤ c ∧ c ≤ 78)) I A3 := fun a k w => by
    try dsimp only at w
    rw [hA a k (by (try dsimp only); omega), f2 a k w]
  refine ⟨⟨by trivial, hf, mj_isk_mk _ _⟩, VF I f 1, ⟨oA, by rw [CA]; exact hF.1, fun k hk => by rw [nA] at hk ⊢; exact b78 k hk⟩, fun A9 h9 => ?_⟩
  obtain ⟨h9a, h9b, h9f⟩ := h9
  rw [nA, CA, VA, sA, moveV_c (Sh' := shV (nF I f) (VF I f)) (B' := VF I f 1) b77 (fun _ _ => rfl)] at h9a
  rw [sA] at h9b
  have f9 : fr (fun c k => (f + 1 ≤ c ∧ c ≤ f + 8) ∨ (c = f ∧ k = 9) ∨ c = 10 ∨ (76 ≤ c ∧ c ≤ 78)) I A9 := fun a k w => by
    try dsimp only at w
    rw [h9f a k (by (try dsimp only); omega), fA a k w]
  exact h A9 ⟨h9a, h9b, f9⟩
theorem sdX4_passHeldSecond : mj_Sd mX4_passHeldSecond 4 tX4_passHeldSecond := by
  intro Ω l d hd as M Φ h
  unfold tX4_passHeldSecond at h
  split at h
  · rename_i z_this c f b_
    obtain ⟨⟨rfl, hf, hM⟩, b, rfl, u, m, R, hp, h⟩ := h
    rw [mj_isk_of hM]
    exact mnX4_passHeldSecond hd c f hf b u m R _ _ hp (by
      rw [mj_isk_of hM] at h
      exact h)
  · exact h.elim
