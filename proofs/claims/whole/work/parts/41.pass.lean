/-! ===== the class's seconds of each sort, to the gun (by program, wip/whole/pg.py) ===== -/
theorem lv7_fr {I I1 : Nat → Nat → Int32} {c : Nat} (h : ∀ k, I1 c k = I c k) : lv7 (I1 c) = lv7 (I c) := by
  funext j
  simp only [lv7, h]
theorem askV_k {n : Nat} {C : Nat → Int32} {R : RF} {F : Vw} {s skip : Int32} {k b : Nat} (h : ¬ k = 2) : askV n C R F s skip k b = F k b := by simp [askV, h]
theorem askV_s {n : Nat} {C : Nat → Int32} {R : RF} {F : Vw} {s : Int32} {b : Nat} : askV n C R F s (nI b) 2 b = F 2 b := by simp [askV]
def csX4_passSecond : List (Nat × Nat × Nat × mj_PT) := [(27, 0, 2, mj_rcv 4 tX4_look), (31, 0, 4, mj_rcv 4 tX4_askRules), (35, 0, 3, mj_rcv 4 tX4_moveAll)]
theorem csX4_passSecond_ok : mj_Cs mX4_passSecond 4 csX4_passSecond := (mj_CsV (D' := 3) (ci := 4) (q := (RX4, TX4, 4)) sdX4_look (Nat.le_of_ble_eq_true rfl) fX4_look rfl rfl iX4_look vX4_look (by decide +kernel) l4_27 (mj_CsV (D' := 3) (ci := 4) (q := (RX4, TX4, 4)) sdX4_askRules (Nat.le_of_ble_eq_true rfl) fX4_askRules rfl rfl iX4_askRules vX4_askRules (by decide +kernel) l4_31 (mj_CsV (D' := 3) (ci := 4) (q := (RX4, TX4, 4)) sdX4_moveAll (Nat.le_of_ble_eq_true rfl) fX4_moveAll rfl rfl iX4_moveAll vX4_moveAll (by decide +kernel) l4_35 mj_Cs0)))
def cutX4_passSecond : List (Nat × List Bool) := []
set_option maxRecDepth 100000 in
set_option maxHeartbeats 4000000 in
theorem inX4_passSecond {Ω : mj_Om} {l : Launch} {d : Nat} {Φ : Option Value → mj_M → Prop} (hd : 4 ≤ d) (c f : Nat) (hf : isCF c f) (I : Nat → Nat → Int32) (J : Nat → Nat → Int64)
    (h : (((75 = 75 ∧ isF3 f ∧ mj_isk (mk I J)) ∧ ((okF I f) ∧ (∀ I87 : Nat → Nat → Int32, ((∀ b, b < nF I f → I87 77 b = shV (nF I f) (VF I f) b ∧ I87 78 b = nI (ordN (nF I f) (VF I f 1) b)) ∧ fr (fun c _ => c = 77 ∨ c = 78) I I87) → ((75 = 75 ∧ isCF c f ∧ mj_isk (mk I87 J)) ∧ (∃ u89 : Int, (∃ m90 : Nat, (∃ R91 : RF, ((u89 ≤ 1000 ∧ FC u89 I87 c f ∧ RuC I87 m90 R91 ∧ (∀ b, b < nF I87 f → I87 77 b = shV (nF I87 f) (VF I87 f) b)) ∧ (∀ I92 : Nat → Nat → Int32, (VF I92 f = askV (nF I87 f) (lv7 (I87 (c + 1))) R91 (VF I87 f) (I87 f 9) (-1 : Int32) ∧ fr (fun c _ => c = f + 3 ∨ c = 76 ∨ c = 10) I87 I92) → ((75 = 75 ∧ isCF c f ∧ mj_isk (mk I92 J)) ∧ (∃ B94 : Nat → Int32, ((okF I92 f ∧ lineOk (lv7 (I92 (c + 1))) ∧ (∀ k, k < nF I92 f → I92 78 k = nI (ordN (nF I92 f) B94 k))) ∧ (∀ I95 : Nat → Nat → Int32, (VF I95 f = moveV (nF I92 f) (lv7 (I92 (c + 1))) (I92 77) B94 (VF I92 f) (I92 f 9) ∧ I95 f 9 = I92 f 9 + 1 ∧ fr (fun c k => (f + 1 ≤ c ∧ c ≤ f + 8) ∨ (c = f ∧ k = 9)) I92 I95) → (Φ none (mk I95 J))))))))))))))))) :
    mj_Met Ω l false mX4_passSecond d 0 0 [.ref 75, .ref c, .ref f] (mk I J) Φ := by
  rcases hf with ⟨rfl, rfl⟩ | ⟨rfl, rfl⟩ | ⟨rfl, rfl⟩ | ⟨rfl, rfl⟩ <;> exact mj_entry (by decide) rfl (fun h => (by cases h)) (Nat.le_of_ble_eq_true rfl) (mj_blk (μ := mX4_passSecond) (P := pX4_passSecond) (cut := cutX4_passSecond) (cs := csX4_passSecond) dX4_passSecond csX4_passSecond_ok hd 14 0 _ h)
def tX4_passSecond : mj_PT := fun as M Φ => match as with
  | [.ref this, .ref c_, .ref f_] => ((this = 75 ∧ isCF c_ f_ ∧ mj_isk M) ∧ (∃ u : Int, (∃ m : Nat, (∃ R : RF, ((u ≤ 1000 ∧ FC u M.2.2.1 c_ f_ ∧ RuC M.2.2.1 m R) ∧ (∀ I1 : Nat → Nat → Int32, (VF I1 f_ = passV (nF M.2.2.1 f_) (lv7 (M.2.2.1 (c_ + 1))) R (VF M.2.2.1 f_) (M.2.2.1 f_ 9) ∧ I1 f_ 9 = (M.2.2.1 f_ 9) + 1 ∧ fr (fun c k => (f_ + 1 ≤ c ∧ c ≤ f_ + 8) ∨ (c = f_ ∧ k = 9) ∨ c = 10 ∨ (76 ≤ c ∧ c ≤ 78)) M.2.2.1 I1) → Φ none (M.1, M.2.1, I1, M.2.2.2)))))))
  | _ => False
set_option maxHeartbeats 4000000 in
theorem mnX4_passSecond {Ω : mj_Om} {l : Launch} {d : Nat} {Φ : Option Value → mj_M → Prop} (hd : 4 ≤ d) (c f : Nat) (hf : isCF c f) (u : Int) (m : Nat) (R : RF) (I : Nat → Nat → Int32) (J : Nat → Nat → Int64) (hp : u ≤ 1000 ∧ FC u I c f ∧ RuC I m R) (h : ∀ I1 : Nat → Nat → Int32, (VF I1 f = passV (nF I f) (lv7 (I (c + 1))) R (VF I f) (I f 9) ∧ I1 f 9 = (I f 9) + 1 ∧ fr (fun c k => (f + 1 ≤ c ∧ c ≤ f + 8) ∨ (c = f ∧ k = 9) ∨ c = 10 ∨ (76 ≤ c ∧ c ≤ 78)) I I1) → Φ none (mk I1 J)) : mj_Met Ω l false mX4_passSecond d 0 0 [.ref 75, .ref c, .ref f] (mk I J) Φ := by
  refine inX4_passSecond hd c f hf I J ?_
  obtain ⟨hu, ⟨hc, hF⟩, hR⟩ := hp
  have hcf := isCF_b hf
  refine ⟨⟨by trivial, isCF_f hf, mj_isk_mk _ _⟩, hc, fun A1 h1 => ?_⟩
  obtain ⟨h1a, h1f⟩ := h1
  obtain ⟨n1, V1, o1, s1⟩ := FF_fr (I := I) (I1 := A1) (f := f) (fun a k q1 q2 => h1f a k (by (try dsimp only); omega))
  have C1 : lv7 (A1 (c + 1)) = lv7 (I (c + 1)) := lv7_fr (fun k => h1f (c + 1) k (by (try dsimp only); omega))
  refine ⟨⟨by trivial, hf, mj_isk_mk _ _⟩, u, m, R, ⟨hu, ⟨o1 hc, by rw [n1, V1, C1, s1]; exact hF⟩, RuC_fr hR (fun a k q1 q2 => h1f a k (by (try dsimp only); omega)), fun b hb => by rw [n1, V1] at *; exact (h1a b hb).1⟩, fun A2 h2 => ?_⟩
  obtain ⟨h2a, h2f⟩ := h2
  rw [n1, C1, V1, s1] at h2a
  have n2 : A2 f 8 = I f 8 ∧ nF A2 f = nF I f := by
    obtain ⟨w1, w2⟩ := fr_n h2f (f := f) (by (try dsimp only); omega)
    rw [w1, w2, n1, h1f f 8 (by (try dsimp only); omega)]
    exact ⟨rfl, rfl⟩
  have o2 : okF A2 f := fr_okF h2f (f := f) (by (try dsimp only); omega) (o1 hc)
  have C2 : lv7 (A2 (c + 1)) = lv7 (I (c + 1)) := by rw [lv7_fr (fun k => h2f (c + 1) k (by (try dsimp only); omega)), C1]
  have s2 : A2 f 9 = I f 9 := by rw [h2f f 9 (by (try dsimp only); omega), s1]
  have f2 : fr (fun c k => (f + 1 ≤ c ∧ c ≤ f + 8) ∨ (c = f ∧ k = 9) ∨ c = 10 ∨ (76 ≤ c ∧ c ≤ 78)) I A2 := fun a k w => by
    try dsimp only at w
    rw [h2f a k (by (try dsimp only); omega), h1f a k (by (try dsimp only); omega)]
  have a77 : ∀ b, b < nF I f → A2 77 b = shV (nF I f) (VF I f) b := fun b hb => by
    rw [h2f 77 b (by (try dsimp only); omega)]
    exact (h1a b hb).1
  have a78 : ∀ b, b < nF I f → A2 78 b = nI (ordN (nF I f) (VF I f 1) b) := fun b hb => by
    rw [h2f 78 b (by (try dsimp only); omega)]
    exact (h1a b hb).2
  have oA := o2
  have nA := n2.2
  have CA := C2
  have sA := s2
  have b77 := a77
  have b78 := a78
  have VA := h2a
  have fA := f2
  refine ⟨⟨by trivial, hf, mj_isk_mk _ _⟩, VF I f 1, ⟨oA, by rw [CA]; exact hF.1, fun k hk => by rw [nA] at hk ⊢; exact b78 k hk⟩, fun A9 h9 => ?_⟩
  obtain ⟨h9a, h9b, h9f⟩ := h9
  rw [nA, CA, VA, sA, moveV_c (Sh' := shV (nF I f) (VF I f)) (B' := VF I f 1) b77 (fun _ _ => rfl)] at h9a
  rw [sA] at h9b
  have f9 : fr (fun c k => (f + 1 ≤ c ∧ c ≤ f + 8) ∨ (c = f ∧ k = 9) ∨ c = 10 ∨ (76 ≤ c ∧ c ≤ 78)) I A9 := fun a k w => by
    try dsimp only at w
    rw [h9f a k (by (try dsimp only); omega), fA a k w]
  exact h A9 ⟨h9a, h9b, f9⟩
theorem sdX4_passSecond : mj_Sd mX4_passSecond 4 tX4_passSecond := by
  intro Ω l d hd as M Φ h
  unfold tX4_passSecond at h
  split at h
  · rename_i z_this c f
    obtain ⟨⟨rfl, hf, hM⟩, u, m, R, hp, h⟩ := h
    rw [mj_isk_of hM]
    exact mnX4_passSecond hd c f hf u m R _ _ hp (by
      rw [mj_isk_of hM] at h
      exact h)
  · exact h.elim
def csX4_passGustySecond : List (Nat × Nat × Nat × mj_PT) := [(27, 0, 2, mj_rcv 4 tX4_look), (31, 0, 4, mj_rcv 4 tX4_askRules), (35, 0, 3, mj_rcv 4 tX4_moveAll), (39, 0, 4, mj_rcv 4 tX4_drawGusts)]
theorem csX4_passGustySecond_ok : mj_Cs mX4_passGustySecond 4 csX4_passGustySecond := (mj_CsV (D' := 3) (ci := 4) (q := (RX4, TX4, 4)) sdX4_look (Nat.le_of_ble_eq_true rfl) fX4_look rfl rfl iX4_look vX4_look (by decide +kernel) l4_27 (mj_CsV (D' := 3) (ci := 4) (q := (RX4, TX4, 4)) sdX4_askRules (Nat.le_of_ble_eq_true rfl) fX4_askRules rfl rfl iX4_askRules vX4_askRules (by decide +kernel) l4_31 (mj_CsV (D' := 3) (ci := 4) (q := (RX4, TX4, 4)) sdX4_moveAll (Nat.le_of_ble_eq_true rfl) fX4_moveAll rfl rfl iX4_moveAll vX4_moveAll (by decide +kernel) l4_35 (mj_CsV (D' := 2) (ci := 4) (q := (RX4, TX4, 4)) sdX4_drawGusts (Nat.le_of_ble_eq_true rfl) fX4_drawGusts rfl rfl iX4_drawGusts vX4_drawGusts (by decide +kernel) l4_39 mj_Cs0))))
def cutX4_passGustySecond : List (Nat × List Bool) := []
set_option maxRecDepth 100000 in
set_option maxHeartbeats 4000000 in
theorem inX4_passGustySecond {Ω : mj_Om} {l : Launch} {d : Nat} {Φ : Option Value → mj_M → Prop} (hd : 4 ≤ d) (c f : Nat) (hf : isCF c f) (g : Int32) (I : Nat → Nat → Int32) (J : Nat → Nat → Int64)
    (h : (((75 = 75 ∧ isF3 f ∧ mj_isk (mk I J)) ∧ ((okF I f) ∧ (∀ I109 : Nat → Nat → Int32, ((∀ b, b < nF I f → I109 77 b = shV (nF I f) (VF I f) b ∧ I109 78 b = nI (ordN (nF I f) (VF I f 1) b)) ∧ fr (fun c _ => c = 77 ∨ c = 78) I I109) → ((75 = 75 ∧ isCF c f ∧ mj_isk (mk I109 J)) ∧ (∃ u111 : Int, (∃ m112 : Nat, (∃ R113 : RF, ((u111 ≤ 1000 ∧ FC u111 I109 c f ∧ RuC I109 m112 R113 ∧ (∀ b, b < nF I109 f → I109 77 b = shV (nF I109 f) (VF I109 f) b)) ∧ (∀ I114 : Nat → Nat → Int32, (VF I114 f = askV (nF I109 f) (lv7 (I109 (c + 1))) R113 (VF I109 f) (I109 f 9) (-1 : Int32) ∧ fr (fun c _ => c = f + 3 ∨ c = 76 ∨ c = 10) I109 I114) → ((75 = 75 ∧ 79 = 79 ∧ isF3 f ∧ mj_isk (mk I114 J)) ∧ ((okF I114 f) ∧ (∀ I116 : Nat → Nat → Int32, ∀ J117 : Nat → Nat → Int64, (VF I116 f = (gustN g (nF I114 f) (VF I114 f, J 79 0)).1 ∧ J117 = mj_ul J 79 0 (gustN g (nF I114 f) (VF I114 f, J 79 0)).2 ∧ fr (fun c _ => c = f + 3) I114 I116) → ((75 = 75 ∧ isCF c f ∧ mj_isk (mk I116 J117)) ∧ (∃ B118 : Nat → Int32, ((okF I116 f ∧ lineOk (lv7 (I116 (c + 1))) ∧ (∀ k, k < nF I116 f → I116 78 k = nI (ordN (nF I116 f) B118 k))) ∧ (∀ I119 : Nat → Nat → Int32, (VF I119 f = moveV (nF I116 f) (lv7 (I116 (c + 1))) (I116 77) B118 (VF I116 f) (I116 f 9) ∧ I119 f 9 = I116 f 9 + 1 ∧ fr (fun c k => (f + 1 ≤ c ∧ c ≤ f + 8) ∨ (c = f ∧ k = 9)) I116 I119) → (Φ none (mk I119 J117)))))))))))))))))))) :
    mj_Met Ω l false mX4_passGustySecond d 0 0 [.ref 75, .ref c, .ref f, .ref 79, .int g] (mk I J) Φ := by
  rcases hf with ⟨rfl, rfl⟩ | ⟨rfl, rfl⟩ | ⟨rfl, rfl⟩ | ⟨rfl, rfl⟩ <;> exact mj_entry (by decide) rfl (fun h => (by cases h)) (Nat.le_of_ble_eq_true rfl) (mj_blk (μ := mX4_passGustySecond) (P := pX4_passGustySecond) (cut := cutX4_passGustySecond) (cs := csX4_passGustySecond) dX4_passGustySecond csX4_passGustySecond_ok hd 19 0 _ h)
def tX4_passGustySecond : mj_PT := fun as M Φ => match as with
  | [.ref this, .ref c_, .ref f_, .ref q_, .int g] => ((this = 75 ∧ q_ = 79 ∧ isCF c_ f_ ∧ mj_isk M) ∧ (∃ u : Int, (∃ m : Nat, (∃ R : RF, ((u ≤ 1000 ∧ FC u M.2.2.1 c_ f_ ∧ RuC M.2.2.1 m R) ∧ (∀ I1 : Nat → Nat → Int32, ∀ J1 : Nat → Nat → Int64, ((VF I1 f_, J1 79 0) = (moveV (nF M.2.2.1 f_) (lv7 (M.2.2.1 (c_ + 1))) (shV (nF M.2.2.1 f_) (VF M.2.2.1 f_)) ((VF M.2.2.1 f_) 1) (gustN g (nF M.2.2.1 f_) (askV (nF M.2.2.1 f_) (lv7 (M.2.2.1 (c_ + 1))) R (VF M.2.2.1 f_) (M.2.2.1 f_ 9) (-1), M.2.2.2 79 0)).1 (M.2.2.1 f_ 9), (gustN g (nF M.2.2.1 f_) (askV (nF M.2.2.1 f_) (lv7 (M.2.2.1 (c_ + 1))) R (VF M.2.2.1 f_) (M.2.2.1 f_ 9) (-1), M.2.2.2 79 0)).2) ∧ (∃ y, J1 = mj_ul M.2.2.2 79 0 y) ∧ I1 f_ 9 = (M.2.2.1 f_ 9) + 1 ∧ fr (fun c k => (f_ + 1 ≤ c ∧ c ≤ f_ + 8) ∨ (c = f_ ∧ k = 9) ∨ c = 10 ∨ (76 ≤ c ∧ c ≤ 78)) M.2.2.1 I1) → Φ none (M.1, M.2.1, I1, J1)))))))
  | _ => False
set_option maxHeartbeats 4000000 in
theorem mnX4_passGustySecond {Ω : mj_Om} {l : Launch} {d : Nat} {Φ : Option Value → mj_M → Prop} (hd : 4 ≤ d) (c f : Nat) (hf : isCF c f) (g : Int32) (u : Int) (m : Nat) (R : RF) (I : Nat → Nat → Int32) (J : Nat → Nat → Int64) (hp : u ≤ 1000 ∧ FC u I c f ∧ RuC I m R) (h : ∀ I1 : Nat → Nat → Int32, ∀ J1 : Nat → Nat → Int64, ((VF I1 f, J1 79 0) = (moveV (nF I f) (lv7 (I (c + 1))) (shV (nF I f) (VF I f)) ((VF I f) 1) (gustN g (nF I f) (askV (nF I f) (lv7 (I (c + 1))) R (VF I f) (I f 9) (-1), J 79 0)).1 (I f 9), (gustN g (nF I f) (askV (nF I f) (lv7 (I (c + 1))) R (VF I f) (I f 9) (-1), J 79 0)).2) ∧ (∃ y, J1 = mj_ul J 79 0 y) ∧ I1 f 9 = (I f 9) + 1 ∧ fr (fun c k => (f + 1 ≤ c ∧ c ≤ f + 8) ∨ (c = f ∧ k = 9) ∨ c = 10 ∨ (76 ≤ c ∧ c ≤ 78)) I I1) → Φ none (mk I1 J1)) : mj_Met Ω l false mX4_passGustySecond d 0 0 [.ref 75, .ref c, .ref f, .ref 79, .int g] (mk I J) Φ := by
  refine inX4_passGustySecond hd c f hf g I J ?_
  obtain ⟨hu, ⟨hc, hF⟩, hR⟩ := hp
  have hcf := isCF_b hf
  refine ⟨⟨by trivial, isCF_f hf, mj_isk_mk _ _⟩, hc, fun A1 h1 => ?_⟩
  obtain ⟨h1a, h1f⟩ := h1
  obtain ⟨n1, V1, o1, s1⟩ := FF_fr (I := I) (I1 := A1) (f := f) (fun a k q1 q2 => h1f a k (by (try dsimp only); omega))
  have C1 : lv7 (A1 (c + 1)) = lv7 (I (c + 1)) := lv7_fr (fun k => h1f (c + 1) k (by (try dsimp only); omega))
  refine ⟨⟨by trivial, hf, mj_isk_mk _ _⟩, u, m, R, ⟨hu, ⟨o1 hc, by rw [n1, V1, C1, s1]; exact hF⟩, RuC_fr hR (fun a k q1 q2 => h1f a k (by (try dsimp only); omega)), fun b hb => by rw [n1, V1] at *; exact (h1a b hb).1⟩, fun A2 h2 => ?_⟩
  obtain ⟨h2a, h2f⟩ := h2
  rw [n1, C1, V1, s1] at h2a
  have n2 : A2 f 8 = I f 8 ∧ nF A2 f = nF I f := by
    obtain ⟨w1, w2⟩ := fr_n h2f (f := f) (by (try dsimp only); omega)
    rw [w1, w2, n1, h1f f 8 (by (try dsimp only); omega)]
    exact ⟨rfl, rfl⟩
  have o2 : okF A2 f := fr_okF h2f (f := f) (by (try dsimp only); omega) (o1 hc)
  have C2 : lv7 (A2 (c + 1)) = lv7 (I (c + 1)) := by rw [lv7_fr (fun k => h2f (c + 1) k (by (try dsimp only); omega)), C1]
  have s2 : A2 f 9 = I f 9 := by rw [h2f f 9 (by (try dsimp only); omega), s1]
  have f2 : fr (fun c k => (f + 1 ≤ c ∧ c ≤ f + 8) ∨ (c = f ∧ k = 9) ∨ c = 10 ∨ (76 ≤ c ∧ c ≤ 78)) I A2 := fun a k w => by
    try dsimp only at w
    rw [h2f a k (by (try dsimp only); omega), h1f a k (by (try dsimp only); omega)]
  have a77 : ∀ b, b < nF I f → A2 77 b = shV (nF I f) (VF I f) b := fun b hb => by
    rw [h2f 77 b (by (try dsimp only); omega)]
    exact (h1a b hb).1
  have a78 : ∀ b, b < nF I f → A2 78 b = nI (ordN (nF I f) (VF I f 1) b) := fun b hb => by
    rw [h2f 78 b (by (try dsimp only); omega)]
    exact (h1a b hb).2
  refine ⟨⟨by trivial, by trivial, isCF_f hf, mj_isk_mk _ _⟩, o2, fun A3 J3 h3 => ?_⟩
  obtain ⟨h3a, h3j, h3f⟩ := h3
  rw [n2.2, h2a] at h3a h3j
  have oA : okF A3 f := fr_okF h3f (f := f) (by (try dsimp only); omega) o2
  have nA : nF A3 f = nF I f := by rw [(fr_n h3f (f := f) (by (try dsimp only); omega)).2]; exact n2.2
  have CA : lv7 (A3 (c + 1)) = lv7 (I (c + 1)) := by rw [lv7_fr (fun k => h3f (c + 1) k (by (try dsimp only); omega)), C2]
  have sA : A3 f 9 = I f 9 := by rw [h3f f 9 (by (try dsimp only); omega), s2]
  have b77 : ∀ b, b < nF I f → A3 77 b = shV (nF I f) (VF I f) b := fun b hb => by rw [h3f 77 b (by (try dsimp only); omega)]; exact a77 b hb
  have b78 : ∀ b, b < nF I f → A3 78 b = nI (ordN (nF I f) (VF I f 1) b) := fun b hb => by rw [h3f 78 b (by (try dsimp only); omega)]; exact a78 b hb
  have VA := h3a
  have fA : fr (fun c k => (f + 1 ≤ c ∧ c ≤ f + 8) ∨ (c = f ∧ k = 9) ∨ c = 10 ∨ (76 ≤ c ∧ c ≤ 78)) I A3 := fun a k w => by
    try dsimp only at w
    rw [h3f a k (by (try dsimp only); omega), f2 a k w]
  refine ⟨⟨by trivial, hf, mj_isk_mk _ _⟩, VF I f 1, ⟨oA, by rw [CA]; exact hF.1, fun k hk => by rw [nA] at hk ⊢; exact b78 k hk⟩, fun A9 h9 => ?_⟩
  obtain ⟨h9a, h9b, h9f⟩ := h9
  rw [nA, CA, VA, sA, moveV_c (Sh' := shV (nF I f) (VF I f)) (B' := VF I f 1) b77 (fun _ _ => rfl)] at h9a
  rw [sA] at h9b
  have f9 : fr (fun c k => (f + 1 ≤ c ∧ c ≤ f + 8) ∨ (c = f ∧ k = 9) ∨ c = 10 ∨ (76 ≤ c ∧ c ≤ 78)) I A9 := fun a k w => by
    try dsimp only at w
    rw [h9f a k (by (try dsimp only); omega), fA a k w]
  exact h A9 J3 ⟨by rw [h9a, h3j, ul_s], ⟨_, h3j⟩, h9b, f9⟩
theorem sdX4_passGustySecond : mj_Sd mX4_passGustySecond 4 tX4_passGustySecond := by
  intro Ω l d hd as M Φ h
  unfold tX4_passGustySecond at h
  split at h
  · rename_i z_this c f z_q g
    obtain ⟨⟨rfl, rfl, hf, hM⟩, u, m, R, hp, h⟩ := h
    rw [mj_isk_of hM]
    exact mnX4_passGustySecond hd c f hf g u m R _ _ hp (by
      rw [mj_isk_of hM] at h
      exact h)
  · exact h.elim
def csX4_passHeldSecond : List (Nat × Nat × Nat × mj_PT) := [(27, 0, 2, mj_rcv 4 tX4_look), (31, 0, 4, mj_rcv 4 tX4_askRules), (35, 0, 3, mj_rcv 4 tX4_moveAll)]
theorem csX4_passHeldSecond_ok : mj_Cs mX4_passHeldSecond 4 csX4_passHeldSecond := (mj_CsV (D' := 3) (ci := 4) (q := (RX4, TX4, 4)) sdX4_look (Nat.le_of_ble_eq_true rfl) fX4_look rfl rfl iX4_look vX4_look (by decide +kernel) l4_27 (mj_CsV (D' := 3) (ci := 4) (q := (RX4, TX4, 4)) sdX4_askRules (Nat.le_of_ble_eq_true rfl) fX4_askRules rfl rfl iX4_askRules vX4_askRules (by decide +kernel) l4_31 (mj_CsV (D' := 3) (ci := 4) (q := (RX4, TX4, 4)) sdX4_moveAll (Nat.le_of_ble_eq_true rfl) fX4_moveAll rfl rfl iX4_moveAll vX4_moveAll (by decide +kernel) l4_35 mj_Cs0)))
def cutX4_passHeldSecond : List (Nat × List Bool) := []
set_option maxRecDepth 100000 in
set_option maxHeartbeats 4000000 in
theorem inX4_passHeldSecond {Ω : mj_Om} {l : Launch} {d : Nat} {Φ : Option Value → mj_M → Prop} (hd : 4 ≤ d) (c f : Nat) (hf : isCF c f) (b_ : Int32) (I : Nat → Nat → Int32) (J : Nat → Nat → Int64)
    (h : (((75 = 75 ∧ isF3 f ∧ mj_isk (mk I J)) ∧ ((okF I f) ∧ (∀ I131 : Nat → Nat → Int32, ((∀ b, b < nF I f → I131 77 b = shV (nF I f) (VF I f) b ∧ I131 78 b = nI (ordN (nF I f) (VF I f 1) b)) ∧ fr (fun c _ => c = 77 ∨ c = 78) I I131) → ((75 = 75 ∧ isCF c f ∧ mj_isk (mk I131 J)) ∧ (∃ u133 : Int, (∃ m134 : Nat, (∃ R135 : RF, ((u133 ≤ 1000 ∧ FC u133 I131 c f ∧ RuC I131 m134 R135 ∧ (∀ b, b < nF I131 f → I131 77 b = shV (nF I131 f) (VF I131 f) b)) ∧ (∀ I136 : Nat → Nat → Int32, (VF I136 f = askV (nF I131 f) (lv7 (I131 (c + 1))) R135 (VF I131 f) (I131 f 9) b_ ∧ fr (fun c _ => c = f + 3 ∨ c = 76 ∨ c = 10) I131 I136) → (mj_gd (mj_inB b_ 8) ((75 = 75 ∧ isCF c f ∧ mj_isk (mk (mj_ui I136 (f + 3) (b_).toNatClampNeg (0 : Int32)) J)) ∧ (∃ B138 : Nat → Int32, ((okF (mj_ui I136 (f + 3) (b_).toNatClampNeg (0 : Int32)) f ∧ lineOk (lv7 ((mj_ui I136 (f + 3) (b_).toNatClampNeg (0 : Int32)) (c + 1))) ∧ (∀ k, k < nF (mj_ui I136 (f + 3) (b_).toNatClampNeg (0 : Int32)) f → (mj_ui I136 (f + 3) (b_).toNatClampNeg (0 : Int32)) 78 k = nI (ordN (nF (mj_ui I136 (f + 3) (b_).toNatClampNeg (0 : Int32)) f) B138 k))) ∧ (∀ I139 : Nat → Nat → Int32, (VF I139 f = moveV (nF (mj_ui I136 (f + 3) (b_).toNatClampNeg (0 : Int32)) f) (lv7 ((mj_ui I136 (f + 3) (b_).toNatClampNeg (0 : Int32)) (c + 1))) ((mj_ui I136 (f + 3) (b_).toNatClampNeg (0 : Int32)) 77) B138 (VF (mj_ui I136 (f + 3) (b_).toNatClampNeg (0 : Int32)) f) ((mj_ui I136 (f + 3) (b_).toNatClampNeg (0 : Int32)) f 9) ∧ I139 f 9 = (mj_ui I136 (f + 3) (b_).toNatClampNeg (0 : Int32)) f 9 + 1 ∧ fr (fun c k => (f + 1 ≤ c ∧ c ≤ f + 8) ∨ (c = f ∧ k = 9)) (mj_ui I136 (f + 3) (b_).toNatClampNeg (0 : Int32)) I139) → (Φ none (mk I139 J)))))))))))))))))) :
    mj_Met Ω l false mX4_passHeldSecond d 0 0 [.ref 75, .ref c, .ref f, .int b_] (mk I J) Φ := by
  rcases hf with ⟨rfl, rfl⟩ | ⟨rfl, rfl⟩ | ⟨rfl, rfl⟩ | ⟨rfl, rfl⟩ <;> exact mj_entry (by decide) rfl (fun h => (by cases h)) (Nat.le_of_ble_eq_true rfl) (mj_blk (μ := mX4_passHeldSecond) (P := pX4_passHeldSecond) (cut := cutX4_passHeldSecond) (cs := csX4_passHeldSecond) dX4_passHeldSecond csX4_passHeldSecond_ok hd 19 0 _ h)
def tX4_passHeldSecond : mj_PT := fun as M Φ => match as with
  | [.ref this, .ref c_, .ref f_, .int b_] => ((this = 75 ∧ isCF c_ f_ ∧ mj_isk M) ∧ (∃ b : Nat, b_ = nI b ∧ (∃ u : Int, (∃ m : Nat, (∃ R : RF, ((u ≤ 1000 ∧ FC u M.2.2.1 c_ f_ ∧ RuC M.2.2.1 m R ∧ b < nF M.2.2.1 f_) ∧ (∀ I1 : Nat → Nat → Int32, (VF I1 f_ = passH (nF M.2.2.1 f_) (lv7 (M.2.2.1 (c_ + 1))) R b (VF M.2.2.1 f_) (M.2.2.1 f_ 9) ∧ I1 f_ 9 = (M.2.2.1 f_ 9) + 1 ∧ fr (fun c k => (f_ + 1 ≤ c ∧ c ≤ f_ + 8) ∨ (c = f_ ∧ k = 9) ∨ c = 10 ∨ (76 ≤ c ∧ c ≤ 78)) M.2.2.1 I1) → Φ none (M.1, M.2.1, I1, M.2.2.2))))))))
  | _ => False
set_option maxHeartbeats 4000000 in
theorem mnX4_passHeldSecond {Ω : mj_Om} {l : Launch} {d : Nat} {Φ : Option Value → mj_M → Prop} (hd : 4 ≤ d) (c f : Nat) (hf : isCF c f) (b : Nat) (u : Int) (m : Nat) (R : RF) (I : Nat → Nat → Int32) (J : Nat → Nat → Int64) (hp : u ≤ 1000 ∧ FC u I c f ∧ RuC I m R ∧ b < nF I f) (h : ∀ I1 : Nat → Nat → Int32, (VF I1 f = passH (nF I f) (lv7 (I (c + 1))) R b (VF I f) (I f 9) ∧ I1 f 9 = (I f 9) + 1 ∧ fr (fun c k => (f + 1 ≤ c ∧ c ≤ f + 8) ∨ (c = f ∧ k = 9) ∨ c = 10 ∨ (76 ≤ c ∧ c ≤ 78)) I I1) → Φ none (mk I1 J)) : mj_Met Ω l false mX4_passHeldSecond d 0 0 [.ref 75, .ref c, .ref f, .int (nI b)] (mk I J) Φ := by
  refine inX4_passHeldSecond hd c f hf (nI b) I J ?_
  obtain ⟨hu, ⟨hc, hF⟩, hR, hb⟩ := hp
  have hcf := isCF_b hf
  have hn := hc.2
  refine ⟨⟨by trivial, isCF_f hf, mj_isk_mk _ _⟩, hc, fun A1 h1 => ?_⟩
  obtain ⟨h1a, h1f⟩ := h1
  obtain ⟨n1, V1, o1, s1⟩ := FF_fr (I := I) (I1 := A1) (f := f) (fun a k q1 q2 => h1f a k (by (try dsimp only); omega))
  have C1 : lv7 (A1 (c + 1)) = lv7 (I (c + 1)) := lv7_fr (fun k => h1f (c + 1) k (by (try dsimp only); omega))
  refine ⟨⟨by trivial, hf, mj_isk_mk _ _⟩, u, m, R, ⟨hu, ⟨o1 hc, by rw [n1, V1, C1, s1]; exact hF⟩, RuC_fr hR (fun a k q1 q2 => h1f a k (by (try dsimp only); omega)), fun b hb => by rw [n1, V1] at *; exact (h1a b hb).1⟩, fun A2 h2 => ?_⟩
  obtain ⟨h2a, h2f⟩ := h2
  rw [n1, C1, V1, s1] at h2a
  have n2 : A2 f 8 = I f 8 ∧ nF A2 f = nF I f := by
    obtain ⟨w1, w2⟩ := fr_n h2f (f := f) (by (try dsimp only); omega)
    rw [w1, w2, n1, h1f f 8 (by (try dsimp only); omega)]
    exact ⟨rfl, rfl⟩
  have o2 : okF A2 f := fr_okF h2f (f := f) (by (try dsimp only); omega) (o1 hc)
  have C2 : lv7 (A2 (c + 1)) = lv7 (I (c + 1)) := by rw [lv7_fr (fun k => h2f (c + 1) k (by (try dsimp only); omega)), C1]
  have s2 : A2 f 9 = I f 9 := by rw [h2f f 9 (by (try dsimp only); omega), s1]
  have f2 : fr (fun c k => (f + 1 ≤ c ∧ c ≤ f + 8) ∨ (c = f ∧ k = 9) ∨ c = 10 ∨ (76 ≤ c ∧ c ≤ 78)) I A2 := fun a k w => by
    try dsimp only at w
    rw [h2f a k (by (try dsimp only); omega), h1f a k (by (try dsimp only); omega)]
  have a77 : ∀ b, b < nF I f → A2 77 b = shV (nF I f) (VF I f) b := fun b hb => by
    rw [h2f 77 b (by (try dsimp only); omega)]
    exact (h1a b hb).1
  have a78 : ∀ b, b < nF I f → A2 78 b = nI (ordN (nF I f) (VF I f 1) b) := fun b hb => by
    rw [h2f 78 b (by (try dsimp only); omega)]
    exact (h1a b hb).2
  simp (disch := omega) only [jn_in, jn_cl, gd_dec]
  have hA : fr (fun c _ => c = f + 3) A2 (mj_ui A2 (f + 3) b 0) := fr_ui fr_rf rfl
  have VA : VF (mj_ui A2 (f + 3) b 0) f = vup (askV (nF I f) (lv7 (I (c + 1))) R (VF I f) (I f 9) (nI b)) 2 b 0 := by rw [VFu_2 (by omega), h2a]
  generalize mj_ui A2 (f + 3) b 0 = A3 at hA VA ⊢
  have oA : okF A3 f := fr_okF hA (f := f) (by (try dsimp only); omega) o2
  have nA : nF A3 f = nF I f := by rw [(fr_n hA (f := f) (by (try dsimp only); omega)).2]; exact n2.2
  have CA : lv7 (A3 (c + 1)) = lv7 (I (c + 1)) := by rw [lv7_fr (fun k => hA (c + 1) k (by (try dsimp only); omega)), C2]
  have sA : A3 f 9 = I f 9 := by rw [hA f 9 (by (try dsimp only); omega), s2]
  have b77 : ∀ b, b < nF I f → A3 77 b = shV (nF I f) (VF I f) b := fun b hb => by rw [hA 77 b (by (try dsimp only); omega)]; exact a77 b hb
  have b78 : ∀ b, b < nF I f → A3 78 b = nI (ordN (nF I f) (VF I f 1) b) := fun b hb => by rw [hA 78 b (by (try dsimp only); omega)]; exact a78 b hb
  have fA : fr (fun c k => (f + 1 ≤ c ∧ c ≤ f + 8) ∨ (c = f ∧ k = 9) ∨ c = 10 ∨ (76 ≤ c ∧ c ≤ 78)) I A3 := fun a k w => by
    try dsimp only at w
    rw [hA a k (by (try dsimp only); omega), f2 a k w]
  refine ⟨⟨by trivial, hf, mj_isk_mk _ _⟩, VF I f 1, ⟨oA, by rw [CA]; exact hF.1, fun k hk => by rw [nA] at hk ⊢; exact b78 k hk⟩, fun A9 h9 => ?_⟩
  obtain ⟨h9a, h9b, h9f⟩ := h9
  rw [nA, CA, VA, sA, moveV_c (Sh' := shV (nF I f) (VF I f)) (B' := VF I f 1) b77 (fun _ _ => rfl)] at h9a
  rw [sA] at h9b
  have f9 : fr (fun c k => (f + 1 ≤ c ∧ c ≤ f + 8) ∨ (c = f ∧ k = 9) ∨ c = 10 ∨ (76 ≤ c ∧ c ≤ 78)) I A9 := fun a k w => by
    try dsimp only at w
    rw [h9f a k (by (try dsimp only); omega), fA a k w]
  exact h A9 ⟨h9a, h9b, f9⟩
theorem sdX4_passHeldSecond : mj_Sd mX4_passHeldSecond 4 tX4_passHeldSecond := by
  intro Ω l d hd as M Φ h
  unfold tX4_passHeldSecond at h
  split at h
  · rename_i z_this c f b_
    obtain ⟨⟨rfl, hf, hM⟩, b, rfl, u, m, R, hp, h⟩ := h
    rw [mj_isk_of hM]
    exact mnX4_passHeldSecond hd c f hf b u m R _ _ hp (by
      rw [mj_isk_of hM] at h
      exact h)
  · exact h.elim
def csX4_passToGun : List (Nat × Nat × Nat × mj_PT) := [(43, 0, 2, mj_rcv 1 tX1_secondsLeft), (49, 0, 3, mj_rcv 4 tX4_passSecond)]
theorem csX4_passToGun_ok : mj_Cs mX4_passToGun 5 csX4_passToGun := (mj_CsV (D' := 1) (ci := 1) (q := (RX1, TX1, 1)) sdX1_secondsLeft (Nat.le_of_ble_eq_true rfl) fX1_secondsLeft rfl rfl iX1_secondsLeft vX1_secondsLeft (by decide +kernel) l4_43 (mj_CsV (D' := 4) (ci := 4) (q := (RX4, TX4, 4)) sdX4_passSecond (Nat.le_of_ble_eq_true rfl) fX4_passSecond rfl rfl iX4_passSecond vX4_passSecond (by decide +kernel) l4_49 mj_Cs0))
def cutX4_passToGun : List (Nat × List Bool) := [(9, [true, true, true, true, true])]
set_option maxRecDepth 100000 in
set_option maxHeartbeats 4000000 in
theorem inX4_passToGun {Ω : mj_Om} {l : Launch} {d : Nat} {Φ : Option Value → mj_M → Prop} (hd : 5 ≤ d) (c f : Nat) (hf : isCF c f) (I : Nat → Nat → Int32) (J : Nat → Nat → Int64)
    (h : ((mj_G Ω l false mX4_passToGun d 0 0 Φ 0 0 9 ([some (.ref 75), some (.ref c), some (.ref f), some (.int ((I (c + 1) 5) - (I f 9))), some (.int (0 : Int32))], [], (mk I J))))) :
    mj_Met Ω l false mX4_passToGun d 0 0 [.ref 75, .ref c, .ref f] (mk I J) Φ := by
  rcases hf with ⟨rfl, rfl⟩ | ⟨rfl, rfl⟩ | ⟨rfl, rfl⟩ | ⟨rfl, rfl⟩ <;> exact mj_entry (by decide) rfl (fun h => (by cases h)) (Nat.le_of_ble_eq_true rfl) (mj_blk (μ := mX4_passToGun) (P := pX4_passToGun) (cut := cutX4_passToGun) (cs := csX4_passToGun) dX4_passToGun csX4_passToGun_ok hd 17 0 _ h)
set_option maxRecDepth 100000 in
set_option maxHeartbeats 4000000 in
theorem bX4_passToGun_9 {Ω : mj_Om} {l : Launch} {d : Nat} {Φ : Option Value → mj_M → Prop} (hd : 5 ≤ d) (c f : Nat) (hf : isCF c f) (x3 : Int32) (x4 : Int32) (I : Nat → Nat → Int32) (J : Nat → Nat → Int64)
    (h : ((if x4 < x3 then ((75 = 75 ∧ isCF c f ∧ mj_isk (mk I J)) ∧ (∃ u146 : Int, (∃ m147 : Nat, (∃ R148 : RF, ((u146 ≤ 1000 ∧ FC u146 I c f ∧ RuC I m147 R148) ∧ (∀ I149 : Nat → Nat → Int32, (VF I149 f = passV (nF I f) (lv7 (I (c + 1))) R148 (VF I f) (I f 9) ∧ I149 f 9 = (I f 9) + 1 ∧ fr (fun c k => (f + 1 ≤ c ∧ c ≤ f + 8) ∨ (c = f ∧ k = 9) ∨ c = 10 ∨ (76 ≤ c ∧ c ≤ 78)) I I149) → (mj_G Ω l false mX4_passToGun d 0 0 Φ 0 0 9 ([some (.ref 75), some (.ref c), some (.ref f), some (.int x3), some (.int (x4 + (1 : Int32)))], [], (mk I149 J))))))))) else (Φ none (mk I J))))) :
    mj_G Ω l false mX4_passToGun d 0 0 Φ 0 0 9 ([some (.ref 75), some (.ref c), some (.ref f), some (.int x3), some (.int x4)], [], mk I J) := by
  rcases hf with ⟨rfl, rfl⟩ | ⟨rfl, rfl⟩ | ⟨rfl, rfl⟩ | ⟨rfl, rfl⟩ <;> exact mj_blk (μ := mX4_passToGun) (P := pX4_passToGun) (cut := cutX4_passToGun) (cs := csX4_passToGun) dX4_passToGun csX4_passToGun_ok hd 17 9 _ h
def tX4_passToGun : mj_PT := fun as M Φ => match as with
  | [.ref this, .ref c_, .ref f_] => ((this = 75 ∧ isCF c_ f_ ∧ mj_isk M) ∧ (∃ u : Int, (∃ m : Nat, (∃ R : RF, ((u ≤ 1000 ∧ FC u M.2.2.1 c_ f_ ∧ RuC M.2.2.1 m R) ∧ (∀ I1 : Nat → Nat → Int32, (VF I1 f_ = gunV (nF M.2.2.1 f_) (lv7 (M.2.2.1 (c_ + 1))) R ((lv7 (M.2.2.1 (c_ + 1))) 5 - (M.2.2.1 f_ 9)).toNatClampNeg (VF M.2.2.1 f_) (M.2.2.1 f_ 9) ∧ I1 f_ 9 = (lv7 (M.2.2.1 (c_ + 1))) 5 ∧ fr (fun c k => (f_ + 1 ≤ c ∧ c ≤ f_ + 8) ∨ (c = f_ ∧ k = 9) ∨ c = 10 ∨ (76 ≤ c ∧ c ≤ 78)) M.2.2.1 I1) → Φ none (M.1, M.2.1, I1, M.2.2.2)))))))
  | _ => False
set_option maxHeartbeats 8000000 in
theorem mnX4_passToGun {Ω : mj_Om} {l : Launch} {d : Nat} {Φ : Option Value → mj_M → Prop} (hd : 5 ≤ d) (c f : Nat) (hf : isCF c f) (u : Int) (m : Nat) (R : RF) (I : Nat → Nat → Int32) (J : Nat → Nat → Int64) (hp : u ≤ 1000 ∧ FC u I c f ∧ RuC I m R) (h : ∀ I1 : Nat → Nat → Int32, (VF I1 f = gunV (nF I f) (lv7 (I (c + 1))) R ((lv7 (I (c + 1))) 5 - (I f 9)).toNatClampNeg (VF I f) (I f 9) ∧ I1 f 9 = (lv7 (I (c + 1))) 5 ∧ fr (fun c k => (f + 1 ≤ c ∧ c ≤ f + 8) ∨ (c = f ∧ k = 9) ∨ c = 10 ∨ (76 ≤ c ∧ c ≤ 78)) I I1) → Φ none (mk I1 J)) : mj_Met Ω l false mX4_passToGun d 0 0 [.ref 75, .ref c, .ref f] (mk I J) Φ := by
  refine inX4_passToGun hd c f hf I J ?_
  obtain ⟨hu, ⟨hc, hF⟩, hR⟩ := hp
  have hcf := isCF_b hf
  have hn := hc.2
  have l5 := hF.1.2.2.2.2.2.1
  have hs := hF.2.1
  have e5 : I (c + 1) 5 = lv7 (I (c + 1)) 5 := (lv7_at (by decide)).symm
  rw [e5]
  have eL := i_sub (x := lv7 (I (c + 1)) 5) (y := I f 9) (by omega)
  generalize hL : lv7 (I (c + 1)) 5 - I f 9 = L at *
  have hLc : L.toNatClampNeg = L.toInt.toNat := rfl
  have hl2 := cl_lt L
  have key : ∀ (k i : Nat) (I' : Nat → Nat → Int32), i + k = L.toNatClampNeg → (I' f 9).toInt = (lv7 (I (c + 1)) 5).toInt - k → okF I' f → nF I' f = nF I f → lv7 (I' (c + 1)) = lv7 (I (c + 1)) → FOk u (nF I f) (lv7 (I (c + 1))) (VF I' f) (I' f 9) → RuC I' m R → fr (fun c k => (f + 1 ≤ c ∧ c ≤ f + 8) ∨ (c = f ∧ k = 9) ∨ c = 10 ∨ (76 ≤ c ∧ c ≤ 78)) I I' → (∀ I1, (VF I1 f = gunV (nF I f) (lv7 (I (c + 1))) R k (VF I' f) (I' f 9) ∧ I1 f 9 = lv7 (I (c + 1)) 5 ∧ fr (fun c k => (f + 1 ≤ c ∧ c ≤ f + 8) ∨ (c = f ∧ k = 9) ∨ c = 10 ∨ (76 ≤ c ∧ c ≤ 78)) I I1) → Φ none (mk I1 J)) → mj_G Ω l false mX4_passToGun d 0 0 Φ 0 0 9 ([some (.ref 75), some (.ref c), some (.ref f), some (.int L), some (.int (nI i))], [], mk I' J) := by
    intro k
    induction k with
    | zero =>
      intro i I' hi h9 ho hn2 hC2 hF2 hR2 hfr h
      refine bX4_passToGun_9 hd c f hf L (nI i) I' J ?_
      rw [if_neg (by rw [jn_ltx (by omega)]; omega)]
      exact h I' ⟨rfl, Int32.toInt_inj.mp (by omega), hfr⟩
    | succ k ih =>
      intro i I' hi h9 ho hn2 hC2 hF2 hR2 hfr h
      refine bX4_passToGun_9 hd c f hf L (nI i) I' J ?_
      rw [if_pos (by rw [jn_ltx (by omega)]; omega)]
      try rw [jn_succ]
      have hlt : (I' f 9).toInt < (lv7 (I (c + 1)) 5).toInt := by omega
      have h91 := i_add1 (x := I' f 9) (by have := Int32.toInt_lt (lv7 (I (c + 1)) 5); omega)
      refine ⟨⟨by trivial, hf, mj_isk_mk _ _⟩, u, m, R, ⟨hu, ⟨ho, by rw [hn2, hC2]; exact hF2⟩, hR2⟩, fun A h1 => ?_⟩
      obtain ⟨h1a, h1b, h1f⟩ := h1
      rw [hn2, hC2] at h1a
      have hF3 := FOk_pass (R := R) hn hF2 hlt
      rw [← h1a, ← h1b] at hF3
      refine ih (i + 1) A (by omega) (by rw [h1b, h91]; omega) (fr_okF h1f (f := f) (by (try dsimp only); omega) ho) (by rw [(fr_n h1f (f := f) (by (try dsimp only); omega)).2, hn2]) (by rw [lv7_fr (fun k => h1f (c + 1) k (by (try dsimp only); omega)), hC2]) hF3 (RuC_fr hR2 (fun a k q1 q2 => h1f a k (by (try dsimp only); omega))) (fr_tr hfr h1f) (fun I1 h2 => h I1 ⟨by rw [h2.1, h1a, h1b]; rfl, h2.2⟩)
  
  exact key L.toNatClampNeg 0 I (by omega) (by omega) hc rfl rfl hF hR fr_rf h
theorem sdX4_passToGun : mj_Sd mX4_passToGun 5 tX4_passToGun := by
  intro Ω l d hd as M Φ h
  unfold tX4_passToGun at h
  split at h
  · rename_i z_this c f
    obtain ⟨⟨rfl, hf, hM⟩, u, m, R, hp, h⟩ := h
    rw [mj_isk_of hM]
    exact mnX4_passToGun hd c f hf u m R _ _ hp (by
      rw [mj_isk_of hM] at h
      exact h)
  · exact h.elim
def csX4_passToGunReleased : List (Nat × Nat × Nat × mj_PT) := [(27, 0, 2, mj_rcv 4 tX4_look), (31, 0, 4, mj_rcv 4 tX4_askRules), (35, 0, 3, mj_rcv 4 tX4_moveAll), (43, 0, 2, mj_rcv 1 tX1_secondsLeft), (57, 0, 2, mj_rcv 3 tX3_speedUp)]
theorem csX4_passToGunReleased_ok : mj_Cs mX4_passToGunReleased 4 csX4_passToGunReleased := (mj_CsV (D' := 3) (ci := 4) (q := (RX4, TX4, 4)) sdX4_look (Nat.le_of_ble_eq_true rfl) fX4_look rfl rfl iX4_look vX4_look (by decide +kernel) l4_27 (mj_CsV (D' := 3) (ci := 4) (q := (RX4, TX4, 4)) sdX4_askRules (Nat.le_of_ble_eq_true rfl) fX4_askRules rfl rfl iX4_askRules vX4_askRules (by decide +kernel) l4_31 (mj_CsV (D' := 3) (ci := 4) (q := (RX4, TX4, 4)) sdX4_moveAll (Nat.le_of_ble_eq_true rfl) fX4_moveAll rfl rfl iX4_moveAll vX4_moveAll (by decide +kernel) l4_35 (mj_CsV (D' := 1) (ci := 1) (q := (RX1, TX1, 1)) sdX1_secondsLeft (Nat.le_of_ble_eq_true rfl) fX1_secondsLeft rfl rfl iX1_secondsLeft vX1_secondsLeft (by decide +kernel) l4_43 (mj_CsV (D' := 1) (ci := 3) (q := (RX3, TX3, 10)) sdX3_speedUp (Nat.le_of_ble_eq_true rfl) fX3_speedUp rfl rfl iX3_speedUp vX3_speedUp (by decide +kernel) l4_57 mj_Cs0)))))
def cutX4_passToGunReleased : List (Nat × List Bool) := [(10, [true, true, true, true, true, true]), (34, [true, true, true, true, true, true])]
set_option maxRecDepth 100000 in
set_option maxHeartbeats 4000000 in
theorem inX4_passToGunReleased {Ω : mj_Om} {l : Launch} {d : Nat} {Φ : Option Value → mj_M → Prop} (hd : 4 ≤ d) (c f : Nat) (hf : isCF c f) (b_ : Int32) (I : Nat → Nat → Int32) (J : Nat → Nat → Int64)
    (h : ((mj_G Ω l false mX4_passToGunReleased d 0 0 Φ 0 0 10 ([some (.ref 75), some (.ref c), some (.ref f), some (.int b_), some (.int ((I (c + 1) 5) - (I f 9))), some (.int (0 : Int32))], [], (mk I J))))) :
    mj_Met Ω l false mX4_passToGunReleased d 0 0 [.ref 75, .ref c, .ref f, .int b_] (mk I J) Φ := by
  rcases hf with ⟨rfl, rfl⟩ | ⟨rfl, rfl⟩ | ⟨rfl, rfl⟩ | ⟨rfl, rfl⟩ <;> exact mj_entry (by decide) rfl (fun h => (by cases h)) (Nat.le_of_ble_eq_true rfl) (mj_blk (μ := mX4_passToGunReleased) (P := pX4_passToGunReleased) (cut := cutX4_passToGunReleased) (cs := csX4_passToGunReleased) dX4_passToGunReleased csX4_passToGunReleased_ok hd 28 0 _ h)
set_option maxRecDepth 100000 in
set_option maxHeartbeats 4000000 in
theorem bX4_passToGunReleased_10 {Ω : mj_Om} {l : Launch} {d : Nat} {Φ : Option Value → mj_M → Prop} (hd : 4 ≤ d) (c f : Nat) (hf : isCF c f) (x3 : Int32) (x4 : Int32) (x5 : Int32) (I : Nat → Nat → Int32) (J : Nat → Nat → Int64)
    (h : ((if x5 < x4 then ((75 = 75 ∧ isF3 f ∧ mj_isk (mk I J)) ∧ ((okF I f) ∧ (∀ I161 : Nat → Nat → Int32, ((∀ b, b < nF I f → I161 77 b = shV (nF I f) (VF I f) b ∧ I161 78 b = nI (ordN (nF I f) (VF I f 1) b)) ∧ fr (fun c _ => c = 77 ∨ c = 78) I I161) → ((75 = 75 ∧ isCF c f ∧ mj_isk (mk I161 J)) ∧ (∃ u163 : Int, (∃ m164 : Nat, (∃ R165 : RF, ((u163 ≤ 1000 ∧ FC u163 I161 c f ∧ RuC I161 m164 R165 ∧ (∀ b, b < nF I161 f → I161 77 b = shV (nF I161 f) (VF I161 f) b)) ∧ (∀ I166 : Nat → Nat → Int32, (VF I166 f = askV (nF I161 f) (lv7 (I161 (c + 1))) R165 (VF I161 f) (I161 f 9) x3 ∧ fr (fun c _ => c = f + 3 ∨ c = 76 ∨ c = 10) I161 I166) → (mj_gd (mj_inB x3 8) (mj_gd (mj_inB x3 8) (if (I166 (f + 3) (x3).toNatClampNeg) < (I166 (f + 4) (x3).toNatClampNeg) then (mj_gd (mj_inB x3 8) (mj_gd (mj_inB x3 8) (mj_G Ω l false mX4_passToGunReleased d 0 0 Φ 0 0 34 ([some (.ref 75), some (.ref c), some (.ref f), some (.int x3), some (.int x4), some (.int x5)], [], (mk (mj_ui I166 (f + 3) (x3).toNatClampNeg ((I166 (f + 3) (x3).toNatClampNeg) + (1 : Int32))) J))))) else (mj_G Ω l false mX4_passToGunReleased d 0 0 Φ 0 0 34 ([some (.ref 75), some (.ref c), some (.ref f), some (.int x3), some (.int x4), some (.int x5)], [], (mk I166 J))))))))))))))) else (Φ none (mk I J))))) :
    mj_G Ω l false mX4_passToGunReleased d 0 0 Φ 0 0 10 ([some (.ref 75), some (.ref c), some (.ref f), some (.int x3), some (.int x4), some (.int x5)], [], mk I J) := by
  rcases hf with ⟨rfl, rfl⟩ | ⟨rfl, rfl⟩ | ⟨rfl, rfl⟩ | ⟨rfl, rfl⟩ <;> exact mj_blk (μ := mX4_passToGunReleased) (P := pX4_passToGunReleased) (cut := cutX4_passToGunReleased) (cs := csX4_passToGunReleased) dX4_passToGunReleased csX4_passToGunReleased_ok hd 28 10 _ h
set_option maxRecDepth 100000 in
set_option maxHeartbeats 4000000 in
theorem bX4_passToGunReleased_34 {Ω : mj_Om} {l : Launch} {d : Nat} {Φ : Option Value → mj_M → Prop} (hd : 4 ≤ d) (c f : Nat) (hf : isCF c f) (x3 : Int32) (x4 : Int32) (x5 : Int32) (I : Nat → Nat → Int32) (J : Nat → Nat → Int64)
    (h : (((75 = 75 ∧ isCF c f ∧ mj_isk (mk I J)) ∧ (∃ B168 : Nat → Int32, ((okF I f ∧ lineOk (lv7 (I (c + 1))) ∧ (∀ k, k < nF I f → I 78 k = nI (ordN (nF I f) B168 k))) ∧ (∀ I169 : Nat → Nat → Int32, (VF I169 f = moveV (nF I f) (lv7 (I (c + 1))) (I 77) B168 (VF I f) (I f 9) ∧ I169 f 9 = I f 9 + 1 ∧ fr (fun c k => (f + 1 ≤ c ∧ c ≤ f + 8) ∨ (c = f ∧ k = 9)) I I169) → (mj_G Ω l false mX4_passToGunReleased d 0 0 Φ 0 0 10 ([some (.ref 75), some (.ref c), some (.ref f), some (.int x3), some (.int x4), some (.int (x5 + (1 : Int32)))], [], (mk I169 J))))))))) :
    mj_G Ω l false mX4_passToGunReleased d 0 0 Φ 0 0 34 ([some (.ref 75), some (.ref c), some (.ref f), some (.int x3), some (.int x4), some (.int x5)], [], mk I J) := by
  rcases hf with ⟨rfl, rfl⟩ | ⟨rfl, rfl⟩ | ⟨rfl, rfl⟩ | ⟨rfl, rfl⟩ <;> exact mj_blk (μ := mX4_passToGunReleased) (P := pX4_passToGunReleased) (cut := cutX4_passToGunReleased) (cs := csX4_passToGunReleased) dX4_passToGunReleased csX4_passToGunReleased_ok hd 28 34 _ h
def tX4_passToGunReleased : mj_PT := fun as M Φ => match as with
  | [.ref this, .ref c_, .ref f_, .int b_] => ((this = 75 ∧ isCF c_ f_ ∧ mj_isk M) ∧ (∃ b : Nat, b_ = nI b ∧ (∃ u : Int, (∃ m : Nat, (∃ R : RF, ((u ≤ 1000 ∧ FC u M.2.2.1 c_ f_ ∧ RuC M.2.2.1 m R ∧ b < nF M.2.2.1 f_) ∧ (∀ I1 : Nat → Nat → Int32, (VF I1 f_ = gunR (nF M.2.2.1 f_) (lv7 (M.2.2.1 (c_ + 1))) R b ((lv7 (M.2.2.1 (c_ + 1))) 5 - (M.2.2.1 f_ 9)).toNatClampNeg (VF M.2.2.1 f_) (M.2.2.1 f_ 9) ∧ I1 f_ 9 = (lv7 (M.2.2.1 (c_ + 1))) 5 ∧ fr (fun c k => (f_ + 1 ≤ c ∧ c ≤ f_ + 8) ∨ (c = f_ ∧ k = 9) ∨ c = 10 ∨ (76 ≤ c ∧ c ≤ 78)) M.2.2.1 I1) → Φ none (M.1, M.2.1, I1, M.2.2.2))))))))
  | _ => False
set_option maxHeartbeats 8000000 in
theorem mnX4_passToGunReleased {Ω : mj_Om} {l : Launch} {d : Nat} {Φ : Option Value → mj_M → Prop} (hd : 4 ≤ d) (c f : Nat) (hf : isCF c f) (b : Nat) (u : Int) (m : Nat) (R : RF) (I : Nat → Nat → Int32) (J : Nat → Nat → Int64) (hp : u ≤ 1000 ∧ FC u I c f ∧ RuC I m R ∧ b < nF I f) (h : ∀ I1 : Nat → Nat → Int32, (VF I1 f = gunR (nF I f) (lv7 (I (c + 1))) R b ((lv7 (I (c + 1))) 5 - (I f 9)).toNatClampNeg (VF I f) (I f 9) ∧ I1 f 9 = (lv7 (I (c + 1))) 5 ∧ fr (fun c k => (f + 1 ≤ c ∧ c ≤ f + 8) ∨ (c = f ∧ k = 9) ∨ c = 10 ∨ (76 ≤ c ∧ c ≤ 78)) I I1) → Φ none (mk I1 J)) : mj_Met Ω l false mX4_passToGunReleased d 0 0 [.ref 75, .ref c, .ref f, .int (nI b)] (mk I J) Φ := by
  refine inX4_passToGunReleased hd c f hf (nI b) I J ?_
  obtain ⟨hu, ⟨hc, hF⟩, hR, hb⟩ := hp
  have hcf := isCF_b hf
  have hn := hc.2
  have l5 := hF.1.2.2.2.2.2.1
  have hs := hF.2.1
  have e5 : I (c + 1) 5 = lv7 (I (c + 1)) 5 := (lv7_at (by decide)).symm
  rw [e5]
  have eL := i_sub (x := lv7 (I (c + 1)) 5) (y := I f 9) (by omega)
  generalize hL : lv7 (I (c + 1)) 5 - I f 9 = L at *
  have hLc : L.toNatClampNeg = L.toInt.toNat := rfl
  have hl2 := cl_lt L
  have key : ∀ (k i : Nat) (I' : Nat → Nat → Int32), i + k = L.toNatClampNeg → (I' f 9).toInt = (lv7 (I (c + 1)) 5).toInt - k → okF I' f → nF I' f = nF I f → lv7 (I' (c + 1)) = lv7 (I (c + 1)) → FOk u (nF I f) (lv7 (I (c + 1))) (VF I' f) (I' f 9) → RuC I' m R → fr (fun c k => (f + 1 ≤ c ∧ c ≤ f + 8) ∨ (c = f ∧ k = 9) ∨ c = 10 ∨ (76 ≤ c ∧ c ≤ 78)) I I' → (∀ I1, (VF I1 f = gunR (nF I f) (lv7 (I (c + 1))) R b k (VF I' f) (I' f 9) ∧ I1 f 9 = lv7 (I (c + 1)) 5 ∧ fr (fun c k => (f + 1 ≤ c ∧ c ≤ f + 8) ∨ (c = f ∧ k = 9) ∨ c = 10 ∨ (76 ≤ c ∧ c ≤ 78)) I I1) → Φ none (mk I1 J)) → mj_G Ω l false mX4_passToGunReleased d 0 0 Φ 0 0 10 ([some (.ref 75), some (.ref c), some (.ref f), some (.int (nI b)), some (.int L), some (.int (nI i))], [], mk I' J) := by
    intro k
    induction k with
    | zero =>
      intro i I' hi h9 ho hn2 hC2 hF2 hR2 hfr h
      refine bX4_passToGunReleased_10 hd c f hf (nI b) L (nI i) I' J ?_
      rw [if_neg (by rw [jn_ltx (by omega)]; omega)]
      exact h I' ⟨rfl, Int32.toInt_inj.mp (by omega), hfr⟩
    | succ k ih =>
      intro i I' hi h9 ho hn2 hC2 hF2 hR2 hfr h
      refine bX4_passToGunReleased_10 hd c f hf (nI b) L (nI i) I' J ?_
      rw [if_pos (by rw [jn_ltx (by omega)]; omega)]
      try rw [jn_succ]
      have hlt : (I' f 9).toInt < (lv7 (I (c + 1)) 5).toInt := by omega
      have h91 := i_add1 (x := I' f 9) (by have := Int32.toInt_lt (lv7 (I (c + 1)) 5); omega)
      have hc := ho
      have hF := hF2
      have hR := hR2
      rw [← hn2, ← hC2] at hF
      refine ⟨⟨by trivial, isCF_f hf, mj_isk_mk _ _⟩, hc, fun A1 h1 => ?_⟩
      obtain ⟨h1a, h1f⟩ := h1
      obtain ⟨n1, V1, o1, s1⟩ := FF_fr (I := I') (I1 := A1) (f := f) (fun a k q1 q2 => h1f a k (by (try dsimp only); omega))
      have C1 : lv7 (A1 (c + 1)) = lv7 (I' (c + 1)) := lv7_fr (fun k => h1f (c + 1) k (by (try dsimp only); omega))
      refine ⟨⟨by trivial, hf, mj_isk_mk _ _⟩, u, m, R, ⟨hu, ⟨o1 hc, by rw [n1, V1, C1, s1]; exact hF⟩, RuC_fr hR (fun a k q1 q2 => h1f a k (by (try dsimp only); omega)), fun b hb => by rw [n1, V1] at *; exact (h1a b hb).1⟩, fun A2 h2 => ?_⟩
      obtain ⟨h2a, h2f⟩ := h2
      rw [n1, C1, V1, s1] at h2a
      have n2 : A2 f 8 = I' f 8 ∧ nF A2 f = nF I' f := by
        obtain ⟨w1, w2⟩ := fr_n h2f (f := f) (by (try dsimp only); omega)
        rw [w1, w2, n1, h1f f 8 (by (try dsimp only); omega)]
        exact ⟨rfl, rfl⟩
      have o2 : okF A2 f := fr_okF h2f (f := f) (by (try dsimp only); omega) (o1 hc)
      have C2 : lv7 (A2 (c + 1)) = lv7 (I' (c + 1)) := by rw [lv7_fr (fun k => h2f (c + 1) k (by (try dsimp only); omega)), C1]
      have s2 : A2 f 9 = I' f 9 := by rw [h2f f 9 (by (try dsimp only); omega), s1]
      have f2 : fr (fun c k => (f + 1 ≤ c ∧ c ≤ f + 8) ∨ (c = f ∧ k = 9) ∨ c = 10 ∨ (76 ≤ c ∧ c ≤ 78)) I' A2 := fun a k w => by
        try dsimp only at w
        rw [h2f a k (by (try dsimp only); omega), h1f a k (by (try dsimp only); omega)]
      have a77 : ∀ b, b < nF I' f → A2 77 b = shV (nF I' f) (VF I' f) b := fun b hb => by
        rw [h2f 77 b (by (try dsimp only); omega)]
        exact (h1a b hb).1
      have a78 : ∀ b, b < nF I' f → A2 78 b = nI (ordN (nF I' f) (VF I' f 1) b) := fun b hb => by
        rw [h2f 78 b (by (try dsimp only); omega)]
        exact (h1a b hb).2
      have e2 : A2 (f + 3) b = VF I' f 2 b := by rw [← VF_2 (I := A2) (f := f) (b := b) (by omega), h2a, askV_s]
      have e3 : A2 (f + 4) b = VF I' f 3 b := by rw [← VF_3 (I := A2) (f := f) (b := b) (by omega), h2a, askV_k (by decide)]
      simp (disch := omega) only [jn_in, jn_cl, gd_dec]
      rw [e2, e3]
      have mv : ∀ A3 : Nat → Nat → Int32, fr (fun c _ => c = f + 3) A2 A3 → VF A3 f = vup (askV (nF I' f) (lv7 (I' (c + 1))) R (VF I' f) (I' f 9) (nI b)) 2 b (asp (VF I' f 2 b) (VF I' f 3 b) 1) → mj_G Ω l false mX4_passToGunReleased d 0 0 Φ 0 0 34 ([some (.ref 75), some (.ref c), some (.ref f), some (.int (nI b)), some (.int L), some (.int (nI i))], [], mk A3 J) := by
        intro A3 hA VA
        have oA : okF A3 f := fr_okF hA (f := f) (by (try dsimp only); omega) o2
        have nA : nF A3 f = nF I' f := by rw [(fr_n hA (f := f) (by (try dsimp only); omega)).2]; exact n2.2
        have CA : lv7 (A3 (c + 1)) = lv7 (I' (c + 1)) := by rw [lv7_fr (fun k => hA (c + 1) k (by (try dsimp only); omega)), C2]
        have sA : A3 f 9 = I' f 9 := by rw [hA f 9 (by (try dsimp only); omega), s2]
        have b77 : ∀ b, b < nF I' f → A3 77 b = shV (nF I' f) (VF I' f) b := fun b hb => by rw [hA 77 b (by (try dsimp only); omega)]; exact a77 b hb
        have b78 : ∀ b, b < nF I' f → A3 78 b = nI (ordN (nF I' f) (VF I' f 1) b) := fun b hb => by rw [hA 78 b (by (try dsimp only); omega)]; exact a78 b hb
        have fA : fr (fun c k => (f + 1 ≤ c ∧ c ≤ f + 8) ∨ (c = f ∧ k = 9) ∨ c = 10 ∨ (76 ≤ c ∧ c ≤ 78)) I' A3 := fun a k w => by
          try dsimp only at w
          rw [hA a k (by (try dsimp only); omega), f2 a k w]
        refine bX4_passToGunReleased_34 hd c f hf (nI b) L (nI i) A3 J ?_
        refine ⟨⟨by trivial, hf, mj_isk_mk _ _⟩, VF I' f 1, ⟨oA, by rw [CA]; exact hF.1, fun k hk => by rw [nA] at hk ⊢; exact b78 k hk⟩, fun A9 h9 => ?_⟩
        obtain ⟨h9a, h9b, h9f⟩ := h9
        rw [nA, CA, VA, sA, moveV_c (Sh' := shV (nF I' f) (VF I' f)) (B' := VF I' f 1) b77 (fun _ _ => rfl)] at h9a
        rw [sA] at h9b
        have f9 : fr (fun c k => (f + 1 ≤ c ∧ c ≤ f + 8) ∨ (c = f ∧ k = 9) ∨ c = 10 ∨ (76 ≤ c ∧ c ≤ 78)) I' A9 := fun a k w => by
          try dsimp only at w
          rw [h9f a k (by (try dsimp only); omega), fA a k w]
        rw [jn_succ]
        have h9a' : VF A9 f = passR (nF I f) (lv7 (I (c + 1))) R b (VF I' f) (I' f 9) := by rw [h9a, hn2, hC2]; rfl
        have hF3 := FOk_passR (b := b) (R := R) hn hF2 hlt
        rw [← h9a', ← h9b] at hF3
        refine ih (i + 1) A9 (by omega) (by rw [h9b, h91]; omega) (fr_okF f9 (f := f) (by (try dsimp only); omega) ho) (by rw [(fr_n f9 (f := f) (by (try dsimp only); omega)).2, hn2]) (by rw [lv7_fr (fun k => f9 (c + 1) k (by (try dsimp only); omega)), hC2]) hF3 (RuC_fr hR2 (fun a k q1 q2 => f9 a k (by (try dsimp only); omega))) (fr_tr hfr f9) (fun I1 h2 => h I1 ⟨by rw [h2.1, h9a', h9b]; rfl, h2.2⟩)
      
      unfold asp at mv
      rw [if_pos (by decide)] at mv
      split
      · rename_i q
        rw [if_pos q] at mv
        exact mv _ (fr_ui fr_rf rfl) (by rw [VFu_2 (by omega), h2a])
      · rename_i q
        rw [if_neg q] at mv
        have ea : VF I' f 2 b = askV (nF I' f) (lv7 (I' (c + 1))) R (VF I' f) (I' f 9) (nI b) 2 b := askV_s.symm
        exact mv A2 fr_rf (by rw [h2a, ea, vup_id])
  
  exact key L.toNatClampNeg 0 I (by omega) (by omega) hc rfl rfl hF hR fr_rf h
theorem sdX4_passToGunReleased : mj_Sd mX4_passToGunReleased 4 tX4_passToGunReleased := by
  intro Ω l d hd as M Φ h
  unfold tX4_passToGunReleased at h
  split at h
  · rename_i z_this c f b_
    obtain ⟨⟨rfl, hf, hM⟩, b, rfl, u, m, R, hp, h⟩ := h
    rw [mj_isk_of hM]
    exact mnX4_passToGunReleased hd c f hf b u m R _ _ hp (by
      rw [mj_isk_of hM] at h
      exact h)
  · exact h.elim
