/-! ===== what holds between the class and the reference behind every call ===== -/
/-- boats as a row of 49 ints at o of cell c has them -/
def vA (n : Nat) (I : Nat → Nat → Int32) (c o : Nat) : Vw := fun k b => if b < n then (match k with
  | 0 => I c (o + 6 * b)
  | 1 => I c (o + (6 * b + 1))
  | 2 => I c (o + (6 * b + 2))
  | 3 => I 105 (6 * b + 3)
  | 4 => I 105 (6 * b + 4)
  | 5 => I c (o + (6 * b + 3))
  | 6 => I c (o + (6 * b + 4))
  | 7 => I c (o + (6 * b + 5))
  | _ => 0) else 0
theorem VM_vA (I : Nat → Nat → Int32) : VM I = vA (nM I) I 106 0 := by
  funext k b
  unfold VM vM vA
  by_cases hb : b < nM I
  · simp only [hb, if_true, Nat.zero_add]
    match k with
    | 0 => rfl
    | 1 => rfl
    | 2 => rfl
    | 3 => rfl
    | 4 => rfl
    | 5 => rfl
    | 6 => rfl
    | 7 => rfl
    | k + 8 => rw [if_neg (by omega)]; rfl
  · simp only [hb, if_false]
theorem vA_c {n c o c' o' : Nat} {I I1 : Nat → Nat → Int32} (h5 : ∀ b, b < n → I1 105 (6 * b + 3) = I 105 (6 * b + 3) ∧ I1 105 (6 * b + 4) = I 105 (6 * b + 4)) (h : ∀ b q, b < n → q < 6 → I1 c' (o' + (6 * b + q)) = I c (o + (6 * b + q))) : vA n I1 c' o' = vA n I c o := by
  funext k b
  unfold vA
  by_cases hb : b < n
  · simp only [hb, if_true]
    match k with
    | 0 => exact h b 0 hb (by decide)
    | 1 => exact h b 1 hb (by decide)
    | 2 => exact h b 2 hb (by decide)
    | 3 => exact (h5 b hb).1
    | 4 => exact (h5 b hb).2
    | 5 => exact h b 3 hb (by decide)
    | 6 => exact h b 4 hb (by decide)
    | 7 => exact h b 5 hb (by decide)
    | k + 8 => rfl
  · simp only [hb, if_false]
/-- boats as they are begun out of what was told -/
def vB (n : Nat) (I : Nat → Nat → Int32) : Vw := fun k b => if b < n then (match k with
  | 0 => I 105 (6 * b)
  | 1 => I 105 (6 * b + 1)
  | 2 => I 105 (6 * b + 2)
  | 3 => I 105 (6 * b + 3)
  | 4 => I 105 (6 * b + 4)
  | 5 => bgV I b 3
  | _ => 0) else 0
theorem vB_c {n : Nat} {I I1 : Nat → Nat → Int32} (h5 : ∀ k, k < 6 * n → I1 105 k = I 105 k) : vB n I1 = vB n I := by
  funext k b
  unfold vB
  by_cases hb : b < n
  · simp only [hb, if_true]
    match k with
    | 0 => exact h5 _ (by omega)
    | 1 => exact h5 _ (by omega)
    | 2 => exact h5 _ (by omega)
    | 3 => exact h5 _ (by omega)
    | 4 => exact h5 _ (by omega)
    | 5 => show bgV I1 b 3 = bgV I b 3
           unfold bgV
           simp only
           rw [h5 _ (by omega)]
    | k + 6 => rfl
  · simp only [hb, if_false]
def relT (I : Nat → Nat → Int32) : Prop := ∃ t, t ≤ 240 ∧ I 1 1 = nI t ∧ I 91 2 = nI t ∧ ∀ k, k < t → I 2 k = I 92 k ∧ 1 ≤ (I 2 k).toInt ∧ (I 2 k).toInt ≤ 255
def relK (I : Nat → Nat → Int32) : Prop := ∃ m K, RK I m K ∧ RKM I m K
def relW (I : Nat → Nat → Int32) : Prop := okF I 39 ∧ okM I ∧ nM I = nF I 39 ∧ I 106 48 = I 39 9 ∧ (0 < nF I 39 → lv7 (I 104) = lv7 (I 27) ∧ VM I = VF I 39 ∧ FOk 19 (nF I 39) (lv7 (I 27)) (VF I 39) (I 39 9) ∧ okF I 30 ∧ nF I 30 = nF I 39 ∧ I 30 9 = 0 ∧ VF I 30 = vB (nF I 39) I ∧ FOk 19 (nF I 39) (lv7 (I 27)) (VF I 30) 0)
def rho (nx j : Nat) : Nat := (nx + 39 - j) % 40
def relA (I : Nat → Nat → Int32) : Prop := ∃ a nx, a ≤ 40 ∧ nx < 40 ∧ I 80 2 = nI a ∧ I 91 31 = nI a ∧ I 80 1 = nI nx ∧ (0 < a → 0 < nF I 39) ∧ ∀ j, j < a → (∀ b q, b < nF I 39 → q < 6 → I 81 (49 * rho nx j + 1 + (6 * b + q)) = I 110 (49 * (a - 1 - j) + (6 * b + q))) ∧ I 81 (49 * rho nx j) = I 110 (49 * (a - 1 - j) + 48) ∧ FOk 19 (nF I 39) (lv7 (I 104)) (vA (nF I 39) I 110 (49 * (a - 1 - j))) (I 110 (49 * (a - 1 - j) + 48))
def relI (I : Nat → Nat → Int32) : Prop := I 0 16 = I 91 44 ∧ (I 0 16 = 0 ∨ I 0 16 = 1) ∧ (I 0 16 = 1 → 0 < nF I 39 ∧ okF I 66 ∧ nF I 66 = nF I 39 ∧ VF I 66 = vA (nF I 39) I 119 0 ∧ I 66 9 = I 119 48 ∧ FOk 19 (nF I 39) (lv7 (I 104)) (VF I 66) (I 66 9))
noncomputable def pcn (I : Nat → Nat → Int32) (b p : Nat) : Nat := cnt (fun k => I 115 k = nI b) p
def plo (I : Nat → Nat → Int32) (b : Nat) : Nat → Int32
  | 0 => -20
  | p + 1 => if I 115 p = nI b then (if plo I b p < I 116 p then I 116 p else plo I b p) else plo I b p
def phi (I : Nat → Nat → Int32) (b : Nat) : Nat → Int32
  | 0 => 20
  | p + 1 => if I 115 p = nI b then (if I 117 p < phi I b p then I 117 p else phi I b p) else phi I b p
def relP (I : Nat → Nat → Int32) : Prop := ∃ p, p ≤ 12 ∧ I 86 4 = nI p ∧ I 91 40 = nI p ∧ ∀ b, b < nF I 39 → I 87 b = nI (pcn I b p) ∧ I 88 b = plo I b p ∧ I 89 b = phi I b p
def psum (I : Nat → Nat → Int32) (b : Nat) : Nat → Int32
  | 0 => 0
  | r + 1 => psum I b r + I 118 (8 * r + b)
def relR (I : Nat → Nat → Int32) : Prop := ∃ r, r ≤ 40 ∧ I 86 5 = nI r ∧ I 91 42 = nI r ∧ (0 < r → 0 < nF I 39) ∧ ∀ b, b < nF I 39 → I 90 b = psum I b r
def Rel (I : Nat → Nat → Int32) : Prop := relT I ∧ relK I ∧ relW I ∧ relA I ∧ relI I ∧ relP I ∧ relR I ∧ I 0 17 = I 91 24 ∧ I 91 25 = -1 ∧ I 91 26 = 0
/-- what calls may leave otherwise -/
def Scr (c k : Nat) : Prop := (c = 1 ∧ k = 2) ∨ c = 10 ∨ (11 ≤ c ∧ c ≤ 25) ∨ (28 ≤ c ∧ c ≤ 29) ∨ (48 ≤ c ∧ c ≤ 65) ∨ (76 ≤ c ∧ c ≤ 79) ∨ (82 ≤ c ∧ c ≤ 85) ∨ (c = 91 ∧ (k = 0 ∨ k = 3 ∨ k = 4 ∨ k = 5 ∨ k = 14 ∨ k = 19)) ∨ ((c = 93 ∨ c = 94) ∧ 2080 ≤ k) ∨ c = 95 ∨ (c = 96 ∧ 4 ≤ k) ∨ ((97 ≤ c ∧ c ≤ 99) ∧ 560 ≤ k) ∨ (100 ≤ c ∧ c ≤ 103) ∨ (107 ≤ c ∧ c ≤ 109) ∨ (111 ≤ c ∧ c ≤ 114)
theorem Scr_m {S : Nat → Nat → Prop} {I I1 : Nat → Nat → Int32} (h : fr S I I1) (hs : ∀ c k, S c k → Scr c k) : fr Scr I I1 := fr_mo h hs
theorem relT_fr {I I1 : Nat → Nat → Int32} (h : relT I) (e1 : I1 1 1 = I 1 1) (e2 : I1 91 2 = I 91 2) (e3 : ∀ k, I1 2 k = I 2 k) (e4 : ∀ k, I1 92 k = I 92 k) : relT I1 := by
  obtain ⟨t, h1, h2, h3, h4⟩ := h
  exact ⟨t, h1, by rw [e1]; exact h2, by rw [e2]; exact h3, fun k hk => by rw [e3, e4]; exact h4 k hk⟩
theorem CLM_fr2 {I I1 : Nat → Nat → Int32} {r : Nat} {cs : List (List Int32 × List Int32)} (hr : r < 4) (h : CLM I r cs) (e : fr Scr I I1) : CLM I1 r cs := by
  obtain ⟨h1, h2, h3, h4⟩ := h
  refine ⟨h1, h2, by rw [e 96 r (by unfold Scr; omega)]; exact h3, fun c hc => ?_⟩
  obtain ⟨g0, g1, g2, g3, g4, g5⟩ := h4 c hc
  exact ⟨g0, by rw [e 97 _ (by unfold Scr; omega)]; exact g1, by rw [e 98 _ (by unfold Scr; omega)]; exact g2, by rw [e 99 _ (by unfold Scr; omega)]; exact g3, fun j hj => by rw [e 93 _ (by unfold Scr; omega), e 94 _ (by unfold Scr; omega)]; exact g4 j hj, fun j hj => by rw [e 93 _ (by unfold Scr; omega), e 94 _ (by unfold Scr; omega)]; exact g5 j hj⟩
theorem relK_fr {I I1 : Nat → Nat → Int32} (h : relK I) (e : fr Scr I I1) : relK I1 := by
  obtain ⟨m, K, ⟨a1, a2, a3⟩, ⟨b1, b2, b3⟩⟩ := h
  refine ⟨m, K, ⟨by rw [e 3 3 (by unfold Scr; omega)]; exact a1, a2, fun r hr => ?_⟩, ⟨by rw [e 91 13 (by unfold Scr; omega)]; exact b1, b2, fun r hr => CLM_fr2 (by omega) (b3 r hr) e⟩⟩
  obtain ⟨g1, g2, g3, g4⟩ := a3 r hr
  exact ⟨g1, g2, by rw [e 9 r (by unfold Scr; omega)]; exact g3, fun j hj => by rw [e (5 + r) j (by unfold Scr; omega)]; exact g4 j hj⟩
theorem plo_c {I I1 : Nat → Nat → Int32} {b : Nat} (h5 : ∀ k, I1 115 k = I 115 k) (h6 : ∀ k, I1 116 k = I 116 k) : ∀ p, plo I1 b p = plo I b p
  | 0 => rfl
  | p + 1 => by unfold plo; rw [h5, h6, plo_c h5 h6 p]
theorem phi_c {I I1 : Nat → Nat → Int32} {b : Nat} (h5 : ∀ k, I1 115 k = I 115 k) (h6 : ∀ k, I1 117 k = I 117 k) : ∀ p, phi I1 b p = phi I b p
  | 0 => rfl
  | p + 1 => by unfold phi; rw [h5, h6, phi_c h5 h6 p]
theorem psum_c {I I1 : Nat → Nat → Int32} {b : Nat} (h : ∀ k, I1 118 k = I 118 k) : ∀ r, psum I1 b r = psum I b r
  | 0 => rfl
  | r + 1 => by unfold psum; rw [h, psum_c h r]
theorem Rel_q {I I1 : Nat → Nat → Int32} (h : Rel I) (e : fr Scr I I1) : Rel I1 := by
  obtain ⟨hT, hK, hW, hA, hI, hP, hR, hg, h25, h26⟩ := h
  obtain ⟨n39, V39, o39, s39⟩ := FF_fr (I := I) (I1 := I1) (f := 39) (fun c k h1 h2 => e c k (by unfold Scr; omega))
  obtain ⟨n30, V30, o30, s30⟩ := FF_fr (I := I) (I1 := I1) (f := 30) (fun c k h1 h2 => e c k (by unfold Scr; omega))
  obtain ⟨n66, V66, o66, s66⟩ := FF_fr (I := I) (I1 := I1) (f := 66) (fun c k h1 h2 => e c k (by unfold Scr; omega))
  obtain ⟨nMe, VMe, oMe⟩ := MM_fr (I := I) (I1 := I1) (e 91 22 (by unfold Scr; omega)) (fun k => e 105 k (by unfold Scr; omega)) (fun k => e 106 k (by unfold Scr; omega))
  have C4 : lv7 (I1 104) = lv7 (I 104) := lv7_fr (fun k => e 104 k (by unfold Scr; omega))
  have C7 : lv7 (I1 27) = lv7 (I 27) := lv7_fr (fun k => e 27 k (by unfold Scr; omega))
  refine ⟨relT_fr hT (e 1 1 (by unfold Scr; omega)) (e 91 2 (by unfold Scr; omega)) (fun k => e 2 k (by unfold Scr; omega)) (fun k => e 92 k (by unfold Scr; omega)), relK_fr hK e, ?_, ?_, ?_, ?_, ?_, by rw [e 0 17 (by unfold Scr; omega), e 91 24 (by unfold Scr; omega)]; exact hg, by rw [e 91 25 (by unfold Scr; omega)]; exact h25, by rw [e 91 26 (by unfold Scr; omega)]; exact h26⟩
  · obtain ⟨w1, w2, w3, w4, w5⟩ := hW
    refine ⟨o39 w1, oMe w2, by rw [nMe, n39]; exact w3, by rw [e 106 48 (by unfold Scr; omega), s39]; exact w4, fun hn => ?_⟩
    rw [n39] at hn ⊢
    obtain ⟨x1, x2, x3, x4, x5, x6, x7, x8⟩ := w5 hn
    rw [C4, C7, VMe, V39, s39, n30, s30, V30, vB_c (I := I) (I1 := I1) (fun k _ => e 105 k (by unfold Scr; omega))]
    exact ⟨x1, x2, x3, o30 x4, x5, x6, x7, x8⟩
  · obtain ⟨a, nx, w1, w2, w3, w4, w5, w6, w7⟩ := hA
    refine ⟨a, nx, w1, w2, by rw [e 80 2 (by unfold Scr; omega)]; exact w3, by rw [e 91 31 (by unfold Scr; omega)]; exact w4, by rw [e 80 1 (by unfold Scr; omega)]; exact w5, by rw [n39]; exact w6, fun j hj => ?_⟩
    obtain ⟨x1, x2, x3⟩ := w7 j hj
    rw [n39, C4, vA_c (I := I) (I1 := I1) (c := 110) (c' := 110) (o := 49 * (a - 1 - j)) (o' := 49 * (a - 1 - j)) (fun b _ => ⟨e 105 _ (by unfold Scr; omega), e 105 _ (by unfold Scr; omega)⟩) (fun b q _ _ => e 110 _ (by unfold Scr; omega)), e 110 _ (by unfold Scr; omega)]
    exact ⟨fun b q hb hq => by rw [e 81 _ (by unfold Scr; omega), e 110 _ (by unfold Scr; omega)]; exact x1 b q hb hq, by rw [e 81 _ (by unfold Scr; omega)]; exact x2, x3⟩
  · obtain ⟨w1, w2, w3⟩ := hI
    refine ⟨by rw [e 0 16 (by unfold Scr; omega), e 91 44 (by unfold Scr; omega)]; exact w1, by rw [e 0 16 (by unfold Scr; omega)]; exact w2, fun hq => ?_⟩
    rw [e 0 16 (by unfold Scr; omega)] at hq
    obtain ⟨x0, x1, x2, x3, x4, x5⟩ := w3 hq
    rw [n39, n66, V66, s66, C4, vA_c (I := I) (I1 := I1) (c := 119) (c' := 119) (o := 0) (o' := 0) (fun b _ => ⟨e 105 _ (by unfold Scr; omega), e 105 _ (by unfold Scr; omega)⟩) (fun b q _ _ => e 119 _ (by unfold Scr; omega)), e 119 _ (by unfold Scr; omega)]
    exact ⟨x0, o66 x1, x2, x3, x4, x5⟩
  · obtain ⟨p, w1, w2, w3, w4⟩ := hP
    refine ⟨p, w1, by rw [e 86 4 (by unfold Scr; omega)]; exact w2, by rw [e 91 40 (by unfold Scr; omega)]; exact w3, fun b hb => ?_⟩
    rw [n39] at hb
    have hpc : pcn I1 b p = pcn I b p := cnt_c (fun i _ => by rw [e 115 i (by unfold Scr; omega)])
    rw [e 87 b (by unfold Scr; omega), e 88 b (by unfold Scr; omega), e 89 b (by unfold Scr; omega), hpc, plo_c (I := I) (fun k => e 115 k (by unfold Scr; omega)) (fun k => e 116 k (by unfold Scr; omega)), phi_c (I := I) (fun k => e 115 k (by unfold Scr; omega)) (fun k => e 117 k (by unfold Scr; omega))]
    exact w4 b hb
  · obtain ⟨r, w1, w2, w3, w5, w4⟩ := hR
    refine ⟨r, w1, by rw [e 86 5 (by unfold Scr; omega)]; exact w2, by rw [e 91 42 (by unfold Scr; omega)]; exact w3, by rw [n39]; exact w5, fun b hb => ?_⟩
    rw [n39] at hb
    rw [e 90 b (by unfold Scr; omega), psum_c (I := I) (fun k => e 118 k (by unfold Scr; omega))]
    exact w4 b hb
