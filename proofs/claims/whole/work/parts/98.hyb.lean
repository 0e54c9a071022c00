/-! ===== seconds passed on both sides: first all of the class's, then all of the reference's ===== -/
abbrev Mz : Type := (Nat → Nat → Int32) × Int64
abbrev StP : Type := Vw → Int32 → Int64 → Vw × Int64
def paF (c k : Nat) : Prop := (40 ≤ c ∧ c ≤ 47) ∨ (c = 39 ∧ k = 9) ∨ c = 10 ∨ (76 ≤ c ∧ c ≤ 78)
def paM (c k : Nat) : Prop := c = 100 ∨ c = 101 ∨ (c = 106 ∧ k < 49) ∨ c = 107 ∨ c = 108 ∨ c = 109 ∨ (c = 91 ∧ k = 26)
def stKC (P : StP) (X Y : Mz) : Prop := ∃ A1 nx a, X.1 80 1 = nI nx ∧ nx < 40 ∧ X.1 80 2 = nI a ∧ a ≤ 40 ∧ remC X.1 nx a A1 ∧ (VF Y.1 39, Y.2) = P (VF X.1 39) (X.1 39 9) X.2 ∧ Y.1 39 9 = X.1 39 9 + 1 ∧ fr paF A1 Y.1
def stKM (P : StP) (X Y : Mz) : Prop := ∃ A1 a, X.1 91 31 = nI a ∧ a ≤ 40 ∧ keepM X.1 a A1 ∧ (VM Y.1, Y.2) = P (VM X.1) (X.1 106 48) X.2 ∧ Y.1 106 48 = X.1 106 48 + 1 ∧ Y.1 91 26 = 0 ∧ fr paM A1 Y.1
def chain (st : Mz → Mz → Prop) : Nat → Mz → Mz → Prop
  | 0, X, Y => Y = X
  | n + 1, X, Y => ∃ Z, chain st n X Z ∧ st Z Y
def hyb (A B : Nat → Nat → Int32) : Nat → Nat → Int32 := fun c k => if c < 91 then A c k else B c k
theorem hyb_l {A B : Nat → Nat → Int32} {c k : Nat} (h : c < 91) : hyb A B c k = A c k := if_pos h
theorem hyb_r {A B : Nat → Nat → Int32} {c k : Nat} (h : 91 ≤ c) : hyb A B c k = B c k := if_neg (by omega)
theorem hyb_V {A B : Nat → Nat → Int32} : nF (hyb A B) 39 = nF A 39 ∧ VF (hyb A B) 39 = VF A 39 ∧ lv7 (hyb A B 27) = lv7 (A 27) ∧ nM (hyb A B) = nM B ∧ VM (hyb A B) = VM B ∧ lv7 (hyb A B 104) = lv7 (B 104) := by
  obtain ⟨n1, V1, -, -⟩ := FF_fr (I := A) (I1 := hyb A B) (f := 39) (fun c k h1 h2 => hyb_l (by omega))
  obtain ⟨n2, V2, -⟩ := MM_fr (I := B) (I1 := hyb A B) (hyb_r (by omega)) (fun k => hyb_r (by omega)) (fun k => hyb_r (by omega))
  exact ⟨n1, V1, lv7_fr (fun k => hyb_l (by omega)), n2, V2, lv7_fr (fun k => hyb_r (by omega))⟩
theorem hyb_step {P : StP} {A A' B B' : Nat → Nat → Int32} {z z' w' : Int64} {n : Nat} {C : Nat → Int32} (h : Rel (hyb A B)) (hn : nF A 39 = n) (hC : lv7 (A 27) = C) (hn0 : 0 < n) (hP : ∀ F s z, FOk 19 n C F s → s.toInt < (C 5).toInt → FOk 19 n C (P F s z).1 (s + 1)) (hs : (A 39 9).toInt < (C 5).toInt) (c : stKC P (A, z) (A', z')) (m : stKM P (B, z) (B', w')) : Rel (hyb A' B') ∧ z' = w' ∧ nF A' 39 = n ∧ lv7 (A' 27) = C ∧ (A' 39 9).toInt = (A 39 9).toInt + 1 := by
  obtain ⟨v1, v2, v3, v4, v5, v6⟩ := hyb_V (A := A) (B := B)
  obtain ⟨u1, u2, u3, u4, u5, u6⟩ := hyb_V (A := A') (B := B')
  obtain ⟨A1, nx, a, c1, c2, c3, c4, c5, c6, c7, c8⟩ := c
  obtain ⟨B1, a', m1, m2, m3, m4, m5, m6, m7⟩ := m
  dsimp only at c1 c3 c5 c6 c7 c8 m1 m3 m4 m5 m6 m7
  obtain ⟨w1, w2, w3, w4, w5⟩ := id h.2.2.1
  have hn' : nF (hyb A B) 39 = n := v1.trans hn
  obtain ⟨x1, x2, x3, -⟩ := w5 (by omega)
  rw [v5, v2] at x2
  have w4' : B 106 48 = A 39 9 := by rw [hyb_r (by omega), hyb_l (by omega)] at w4; exact w4
  obtain ⟨ag, nxg, g1, g2, g3, g4, g5⟩ := relA_g h
  rw [hyb_l (by omega)] at g3 g5
  rw [hyb_r (by omega)] at g4
  have ea : a' = a := by
    have h1 := g4.symm.trans m1
    have h2 := g3.symm.trans c3
    rw [jn_eq (by omega) (by omega)] at h1 h2
    omega
  subst ea
  rw [x2, w4', ← c6] at m4
  injection m4 with e1 e2
  have aF := remC_fr c5
  obtain ⟨r1, r2⟩ := remC_81 c5
  obtain ⟨-, -, -, r3, r4⟩ := c5
  have F := x3
  rw [v1, hn, v3, hC, v2, hyb_l (by omega)] at F
  have F' := hP _ _ z F hs
  rw [← c6] at F'
  have lo : ∀ c k, c < 91 → ¬ paF c k → ¬ c = 80 → ¬ c = 81 → A' c k = A c k := fun c k _ q1 q2 q3 => by rw [c8 c k q1]; exact aF c k (by (try dsimp only); omega)
  have hi : ∀ c k, ¬ paM c k → ¬ c = 110 → ¬ (c = 91 ∧ k = 31) → B' c k = B c k := fun c k q1 q2 q3 => by rw [m7 c k q1]; exact m3.2.2.2 c k (by (try dsimp only); omega)
  have n' : nF A' 39 = n := by unfold nF; rw [lo 39 8 (by decide) (by unfold paF; omega) (by decide) (by decide)]; exact hn
  have C' : lv7 (A' 27) = C := by rw [← hC]; exact lv7_fr (fun k => lo 27 k (by decide) (by unfold paF; omega) (by decide) (by decide))
  refine ⟨?_, e2.symm, n', C', by rw [c7, i_add1 (by have := Int32.toInt_lt (C 5); omega)]⟩
  refine Rel_act (I := hyb A B) (a := a') (nx := nx) h (by rw [hyb_l (by omega)]; exact c3) (by rw [hyb_l (by omega)]; exact c1) c4 c2 (by rw [hn']; exact hn0) (fun p hp => ?_) (fun j hj => ?_) ?_ ?_ ?_ (fun j hj => ?_) (fun j hj => ?_) ?_ ?_ ?_ ?_ (fun c k w => ?_)
  · rw [hyb_l (by omega), c8 81 _ (by unfold paF; omega), r1 p hp]
    unfold wv
    by_cases q : p = 0
    · rw [if_pos q, if_pos q, hyb_l (by omega)]
    · have := aF_b ((p - 1) % 6)
      rw [if_neg q, if_neg q, hyb_l (by omega)]
  · rw [hyb_l (by omega), hyb_l (by omega), c8 81 _ (by unfold paF; omega)]; exact r2 j hj
  · rw [hyb_l (by omega), c8 80 1 (by unfold paF; omega)]; exact r3
  · rw [hyb_l (by omega), c8 80 2 (by unfold paF; omega)]; exact r4
  · rw [hyb_r (by omega), m7 91 31 (by unfold paM; omega)]; exact m3.1
  · rw [hyb_r (by omega), hyb_r (by omega), m7 110 _ (by unfold paM; omega)]; exact m3.2.1 j hj
  · rw [hyb_r (by omega), hyb_r (by omega), hyb_r (by omega), m7 110 _ (by unfold paM; omega)]; exact m3.2.2.1 j hj
  · rw [hyb_r (by omega), hyb_l (by omega), m5, c7, w4']
  · rw [u5, u2]; exact e1
  · rw [hn', v3, hC, u2, hyb_l (by omega), c7]; exact F'
  · rw [hyb_r (by omega)]; exact m6
  · unfold actF at w
    by_cases q : c < 91
    · rw [hyb_l q, hyb_l q]; exact lo c k q (by unfold paF; omega) (by omega) (by omega)
    · rw [hyb_r (by omega), hyb_r (by omega)]; exact hi c k (by unfold paM; omega) (by omega) (by omega)
theorem hyb_chain {P : StP} {n : Nat} {C : Nat → Int32} (hn0 : 0 < n) (hP : ∀ F s z, FOk 19 n C F s → s.toInt < (C 5).toInt → FOk 19 n C (P F s z).1 (s + 1)) : ∀ (k : Nat) (A A' B B' : Nat → Nat → Int32) (z z' w' : Int64), chain (stKC P) k (A, z) (A', z') → chain (stKM P) k (B, z) (B', w') → Rel (hyb A B) → nF A 39 = n → lv7 (A 27) = C → (A 39 9).toInt + k ≤ (C 5).toInt → Rel (hyb A' B') ∧ z' = w' ∧ nF A' 39 = n ∧ lv7 (A' 27) = C ∧ (A' 39 9).toInt = (A 39 9).toInt + k := by
  intro k
  induction k with
  | zero =>
    intro A A' B B' z z' w' hc hm h h1 h2 h3
    cases hc
    cases hm
    exact ⟨h, rfl, h1, h2, by omega⟩
  | succ k ih =>
    intro A A' B B' z z' w' hc hm h h1 h2 h3
    obtain ⟨⟨A1, z1⟩, c1, c2⟩ := hc
    obtain ⟨⟨B1, w1⟩, m1, m2⟩ := hm
    obtain ⟨i1, i2, i3, i4, i5⟩ := ih A A1 B B1 z z1 w1 c1 m1 h h1 h2 (by omega)
    subst i2
    obtain ⟨j1, j2, j3, j4, j5⟩ := hyb_step i1 i3 i4 hn0 hP (by omega) c2 m2
    exact ⟨j1, j2, j3, j4, by rw [j5, i5]; omega⟩
/-- what the class's loop of seconds holds -/
def clF (c k : Nat) : Prop := c = 80 ∨ c = 81 ∨ paF c k
def clI (I : Nat → Nat → Int32) (n : Nat) (C : Nat → Int32) (m : Nat) (R : RF) (i : Nat) (A : Nat → Nat → Int32) : Prop := okF A 39 ∧ nF A 39 = n ∧ lv7 (A 27) = C ∧ RuC A m R ∧ FOk 19 n C (VF A 39) (A 39 9) ∧ (A 39 9).toInt = (I 39 9).toInt + i ∧ (∃ nx a, A 80 1 = nI nx ∧ nx < 40 ∧ A 80 2 = nI a ∧ a ≤ 40) ∧ fr clF I A
theorem clI_rem {I A A1 : Nat → Nat → Int32} {n m i nx a : Nat} {C : Nat → Int32} {R : RF} (h : clI I n C m R i A) (hr : remC A nx a A1) : FC 19 A1 26 39 ∧ RuC A1 m R ∧ nF A1 39 = n ∧ lv7 (A1 27) = C ∧ VF A1 39 = VF A 39 ∧ A1 39 9 = A 39 9 ∧ ∀ c k, ¬ c = 80 → ¬ c = 81 → A1 c k = A c k := by
  obtain ⟨h1, h2, h3, h4, h5, h6, h7, h8⟩ := h
  have aF := remC_fr hr
  have g : ∀ c k, ¬ c = 80 → ¬ c = 81 → A1 c k = A c k := fun c k q1 q2 => aF c k (by (try dsimp only); omega)
  obtain ⟨n1, V1, o1, s1⟩ := FF_fr (I := A) (I1 := A1) (f := 39) (fun c k h1 h2 => g c k (by omega) (by omega))
  have C1 : lv7 (A1 27) = C := by rw [← h3]; exact lv7_fr (fun k => g 27 k (by omega) (by omega))
  exact ⟨⟨o1 h1, by show FOk 19 (nF A1 39) (lv7 (A1 27)) (VF A1 39) (A1 39 9); rw [n1, h2, C1, V1, s1]; exact h5⟩, RuC_fr h4 (fun c k q1 q2 => g c k (by omega) (by omega)), n1.trans h2, C1, V1, s1, g⟩
theorem clI_up {I A A1 B : Nat → Nat → Int32} {n m i nx a : Nat} {C : Nat → Int32} {R : RF} {F : Vw} (h : clI I n C m R i A) (hnx : nx < 40) (ha : a ≤ 40) (hr : remC A nx a A1) (hF : VF B 39 = F) (hok : FOk 19 n C F (A 39 9 + 1)) (h9 : B 39 9 = A 39 9 + 1) (hlt : (A 39 9).toInt < 1000) (hf : fr paF A1 B) : clI I n C m R (i + 1) B := by
  obtain ⟨f1, f2, f3, f4, f5, f6, f7⟩ := clI_rem h hr
  obtain ⟨h1, h2, h3, h4, h5, h6, h7, h8⟩ := h
  obtain ⟨-, -, -, r3, r4⟩ := hr
  have e8 : B 39 8 = A1 39 8 := hf 39 8 (by unfold paF; omega)
  have nB : nF B 39 = n := by unfold nF; rw [e8]; exact f3
  refine ⟨⟨by rw [nB, e8, f1.1.1, f3], by rw [nB, ← f3]; exact f1.1.2⟩, nB, by rw [← f4]; exact lv7_fr (fun k => hf 27 k (by unfold paF; omega)), RuC_fr f2 (fun c k q1 q2 => hf c k (by unfold paF; omega)), by rw [hF, h9]; exact hok, by rw [h9, i_add1 (by omega), h6]; omega, ⟨nxA nx, ctA a, by rw [hf 80 1 (by unfold paF; omega)]; exact r3, by unfold nxA; split <;> omega, by rw [hf 80 2 (by unfold paF; omega)]; exact r4, by unfold ctA; split <;> omega⟩, fun c k w => ?_⟩
  unfold clF at w
  rw [hf c k (fun z => w (Or.inr (Or.inr z))), f7 c k (by omega) (by omega)]
  exact h8 c k w
/-- what the reference's loop of seconds holds -/
def rlF (c k : Nat) : Prop := c = 110 ∨ (c = 91 ∧ k = 31) ∨ paM c k
def rlI (I : Nat → Nat → Int32) (n : Nat) (C : Nat → Int32) (m : Nat) (R : RF) (i : Nat) (A : Nat → Nat → Int32) : Prop := okM A ∧ nM A = n ∧ lv7 (A 104) = C ∧ RuM A m R ∧ FOk 19 n C (VM A) (A 106 48) ∧ (A 106 48).toInt = (I 106 48).toInt + i ∧ A 91 25 = -1 ∧ A 91 26 = 0 ∧ (∃ a, A 91 31 = nI a ∧ a ≤ 40) ∧ fr rlF I A
theorem RuM_fr' {I I1 : Nat → Nat → Int32} {n : Nat} {R : RF} (h : RuM I n R) (e : ∀ c k, 93 ≤ c → c ≤ 99 → I1 c k = I c k) (e13 : I1 91 13 = I 91 13) : RuM I1 n R := by
  obtain ⟨K, ⟨q2, q3, q4⟩, q5⟩ := h
  exact ⟨K, ⟨by rw [e13]; exact q2, q3, fun r hr => CLM_fr (q4 r hr) e⟩, q5⟩
theorem rlI_kp {I A A1 : Nat → Nat → Int32} {n m i a : Nat} {C : Nat → Int32} {R : RF} (h : rlI I n C m R i A) (hr : keepM A a A1) : FM 19 A1 ∧ RuM A1 m R ∧ nM A1 = n ∧ lv7 (A1 104) = C ∧ VM A1 = VM A ∧ A1 106 48 = A 106 48 ∧ A1 91 25 = -1 ∧ A1 91 26 = 0 := by
  obtain ⟨h1, h2, h3, h4, h5, h6, h7, h8, h9, h10⟩ := h
  have g : ∀ c k, ¬ c = 110 → ¬ (c = 91 ∧ k = 31) → A1 c k = A c k := fun c k q1 q2 => hr.2.2.2 c k (by (try dsimp only); omega)
  obtain ⟨n1, V1, o1⟩ := MM_fr (I := A) (I1 := A1) (g 91 22 (by omega) (by omega)) (fun k => g 105 k (by omega) (by omega)) (fun k => g 106 k (by omega) (by omega))
  have C1 : lv7 (A1 104) = C := by rw [← h3]; exact lv7_fr (fun k => g 104 k (by omega) (by omega))
  have s1 := g 106 48 (by omega) (by omega)
  exact ⟨⟨o1 h1, by rw [n1, h2, C1, V1, s1]; exact h5⟩, RuM_fr' h4 (fun c k q1 q2 => g c k (by omega) (by omega)) (g 91 13 (by omega) (by omega)), n1.trans h2, C1, V1, s1, by rw [g 91 25 (by omega) (by omega)]; exact h7, by rw [g 91 26 (by omega) (by omega)]; exact h8⟩
theorem rlI_up {I A A1 B : Nat → Nat → Int32} {n m i a : Nat} {C : Nat → Int32} {R : RF} {F : Vw} (h : rlI I n C m R i A) (ha : a ≤ 40) (hr : keepM A a A1) (hF : VM B = F) (hok : FOk 19 n C F (A 106 48 + 1)) (h9 : B 106 48 = A 106 48 + 1) (h26 : B 91 26 = 0) (hlt : (A 106 48).toInt < 1000) (hf : fr paM A1 B) : rlI I n C m R (i + 1) B := by
  obtain ⟨f1, f2, f3, f4, f5, f6, f7, f8⟩ := rlI_kp h hr
  obtain ⟨h1, h2, h3, h4, h5, h6, h7, h8, hh9, h10⟩ := h
  have e22 : B 91 22 = A1 91 22 := hf 91 22 (by unfold paM; omega)
  have nB : nM B = n := by unfold nM; rw [e22]; exact f3
  refine ⟨⟨by rw [nB, e22, f1.1.1, f3], by rw [nB, ← f3]; exact f1.1.2⟩, nB, by rw [← f4]; exact lv7_fr (fun k => hf 104 k (by unfold paM; omega)), RuM_fr' f2 (fun c k q1 q2 => hf c k (by unfold paM; omega)) (hf 91 13 (by unfold paM; omega)), by rw [hF, h9]; exact hok, by rw [h9, i_add1 (by omega), h6]; omega, by rw [hf 91 25 (by unfold paM; omega)]; exact f7, h26, ⟨ctA a, by rw [hf 91 31 (by unfold paM; omega)]; exact hr.1, by unfold ctA; split <;> omega⟩, fun c k w => ?_⟩
  unfold rlF at w
  rw [hf c k (fun z => w (Or.inr (Or.inr z))), hr.2.2.2 c k (by (try dsimp only); omega)]
  exact h10 c k w
