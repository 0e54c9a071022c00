/-! ===== a race and a picture keep the relation ===== -/
theorem psum_lt {I I1 : Nat → Nat → Int32} {b : Nat} : ∀ r, (∀ j, j < r → I1 118 (8 * j + b) = I 118 (8 * j + b)) → psum I1 b r = psum I b r
  | 0, _ => rfl
  | r + 1, h => by unfold psum; rw [h r (by omega), psum_lt r (fun j hj => h j (by omega))]
theorem plo_lt {I I1 : Nat → Nat → Int32} {b : Nat} : ∀ p, (∀ j, j < p → I1 115 j = I 115 j ∧ I1 116 j = I 116 j) → plo I1 b p = plo I b p
  | 0, _ => rfl
  | p + 1, h => by unfold plo; rw [(h p (by omega)).1, (h p (by omega)).2, plo_lt p (fun j hj => h j (by omega))]
theorem phi_lt {I I1 : Nat → Nat → Int32} {b : Nat} : ∀ p, (∀ j, j < p → I1 115 j = I 115 j ∧ I1 117 j = I 117 j) → phi I1 b p = phi I b p
  | 0, _ => rfl
  | p + 1, h => by unfold phi; rw [(h p (by omega)).1, (h p (by omega)).2, phi_lt p (fun j hj => h j (by omega))]
theorem Rel_race {I I2 : Nat → Nat → Int32} {r : Nat} {P : Nat → Int32} (h : Rel I) (hr : r < 40) (h5 : I 86 5 = nI r) (hn : 0 < nF I 39) (a1 : I2 86 5 = nI (r + 1)) (a2 : I2 91 42 = nI (r + 1)) (a3 : ∀ b, b < nF I 39 → I2 90 b = I 90 b + P b) (a4 : ∀ b, b < nF I 39 → I2 118 (8 * r + b) = P b) (e : fr (fun c k => c = 90 ∨ (c = 86 ∧ k = 5) ∨ (c = 118 ∧ 8 * r ≤ k) ∨ (c = 91 ∧ k = 42)) I I2) : Rel I2 := by
  obtain ⟨hT, hK, hW, hA, hI, hP, hR, hg, h25, h26⟩ := h
  have h8 := hW.1.2
  have n39 : nF I2 39 = nF I 39 := by unfold nF; rw [e 39 8 (by (try dsimp only); omega)]
  refine ⟨relT_k hT (fun c k q => e c k (by unfold inT at q; (try dsimp only); omega)), relK_k hK (fun c k q => e c k (by unfold inK at q; (try dsimp only); omega)), relW_k hW (fun c k q => e c k (by unfold inW at q; (try dsimp only); omega)), relA_k hA (fun c k q => e c k (by unfold inA at q; (try dsimp only); omega)), relI_k hI (fun c k q => e c k (by unfold inI at q; (try dsimp only); omega)), relP_k hP (fun c k q => e c k (by unfold inP at q; (try dsimp only); omega)), ?_, ?_, ?_, ?_⟩
  · obtain ⟨r', w1, w2, w3, w5, w4⟩ := hR
    have er : r' = r := by
      have := w2.symm.trans h5
      rwa [jn_eq (by omega) (by omega)] at this
    subst er
    refine ⟨r' + 1, by omega, a1, a2, fun _ => by rw [n39]; exact hn, fun b hb => ?_⟩
    rw [n39] at hb
    rw [a3 b hb, w4 b hb, psum, a4 b hb, psum_lt r' (fun j hj => e 118 (8 * j + b) (by (try dsimp only); omega))]
  · rw [e 0 17 (by (try dsimp only); omega), e 91 24 (by (try dsimp only); omega)]; exact hg
  · rw [e 91 25 (by (try dsimp only); omega)]; exact h25
  · rw [e 91 26 (by (try dsimp only); omega)]; exact h26
theorem Rel_pic {I I2 : Nat → Nat → Int32} {p k : Nat} {x y : Int32} (h : Rel I) (hp : p < 12) (h4 : I 86 4 = nI p) (hk : k < nF I 39) (a1 : I2 86 4 = nI (p + 1)) (a2 : I2 91 40 = nI (p + 1)) (a3 : I2 115 p = nI k) (a4 : I2 116 p = x) (a5 : I2 117 p = y) (a6 : I2 87 k = I 87 k + 1) (a7 : I2 88 k = if I 88 k < x then x else I 88 k) (a8 : I2 89 k = if y < I 89 k then y else I 89 k) (e : fr (fun c j => ((c = 87 ∨ c = 88 ∨ c = 89) ∧ j = k) ∨ (c = 86 ∧ j = 4) ∨ ((c = 115 ∨ c = 116 ∨ c = 117) ∧ j = p) ∨ (c = 91 ∧ j = 40)) I I2) : Rel I2 := by
  obtain ⟨hT, hK, hW, hA, hI, hP, hR, hg, h25, h26⟩ := h
  have h8 := hW.1.2
  have n39 : nF I2 39 = nF I 39 := by unfold nF; rw [e 39 8 (by (try dsimp only); omega)]
  refine ⟨relT_k hT (fun c k q => e c k (by unfold inT at q; (try dsimp only); omega)), relK_k hK (fun c k q => e c k (by unfold inK at q; (try dsimp only); omega)), relW_k hW (fun c k q => e c k (by unfold inW at q; (try dsimp only); omega)), relA_k hA (fun c k q => e c k (by unfold inA at q; (try dsimp only); omega)), relI_k hI (fun c k q => e c k (by unfold inI at q; (try dsimp only); omega)), ?_, relR_k hR (fun c k q => e c k (by unfold inR at q; (try dsimp only); omega)), ?_, ?_, ?_⟩
  · obtain ⟨p', w1, w2, w3, w4⟩ := hP
    have er : p' = p := by
      have := w2.symm.trans h4
      rwa [jn_eq (by omega) (by omega)] at this
    subst er
    refine ⟨p' + 1, by omega, a1, a2, fun b hb => ?_⟩
    rw [n39] at hb
    obtain ⟨v1, v2, v3⟩ := w4 b hb
    have c1 : pcn I2 b p' = pcn I b p' := cnt_c (fun i hi => by rw [e 115 i (by (try dsimp only); omega)])
    have c2 : plo I2 b p' = plo I b p' := plo_lt p' (fun j hj => ⟨e 115 j (by (try dsimp only); omega), e 116 j (by (try dsimp only); omega)⟩)
    have c3 : phi I2 b p' = phi I b p' := phi_lt p' (fun j hj => ⟨e 115 j (by (try dsimp only); omega), e 117 j (by (try dsimp only); omega)⟩)
    by_cases z : b = k
    · subst z
      have d1 : pcn I2 b (p' + 1) = pcn I2 b p' + 1 := cnt_y (p := fun i => I2 115 i = nI b) a3
      rw [d1, c1, a6, v1, jn_succ, plo, phi, if_pos a3, if_pos a3, c2, c3, a4, a5, a7, a8, v2, v3]
      exact ⟨rfl, rfl, rfl⟩
    · have a3' : ¬ I2 115 p' = nI b := by rw [a3, jn_eq (by omega) (by omega)]; omega
      have d1 : pcn I2 b (p' + 1) = pcn I2 b p' := cnt_n (p := fun i => I2 115 i = nI b) a3'
      rw [d1, c1, plo, phi, if_neg a3', if_neg a3', c2, c3, e 87 b (by (try dsimp only); omega), e 88 b (by (try dsimp only); omega), e 89 b (by (try dsimp only); omega)]
      exact ⟨v1, v2, v3⟩
  · rw [e 0 17 (by (try dsimp only); omega), e 91 24 (by (try dsimp only); omega)]; exact hg
  · rw [e 91 25 (by (try dsimp only); omega)]; exact h25
  · rw [e 91 26 (by (try dsimp only); omega)]; exact h26
/-- the image kept by both -/
theorem Rel_image {I I2 : Nat → Nat → Int32} (h : Rel I) (hn : 0 < nF I 39) (a1 : okF I2 66) (a2 : nF I2 66 = nF I 39) (a3 : VF I2 66 = VF I 39) (a4 : I2 66 9 = I 39 9) (a5 : I2 0 16 = 1) (a6 : ∀ k, k < 49 → I2 119 k = I 106 k) (a7 : I2 91 44 = 1) (e : fr (fun c k => (66 ≤ c ∧ c ≤ 74) ∨ (c = 0 ∧ k = 16) ∨ c = 119 ∨ (c = 91 ∧ k = 44)) I I2) : Rel I2 := by
  obtain ⟨hT, hK, hW, hA, hI, hP, hR, hg, h25, h26⟩ := h
  have n39 : nF I2 39 = nF I 39 := by unfold nF; rw [e 39 8 (by (try dsimp only); omega)]
  have C4 : lv7 (I2 104) = lv7 (I 104) := lv7_fr (fun k => e 104 k (by (try dsimp only); omega))
  refine ⟨relT_k hT (fun c k q => e c k (by unfold inT at q; (try dsimp only); omega)), relK_k hK (fun c k q => e c k (by unfold inK at q; (try dsimp only); omega)), relW_k hW (fun c k q => e c k (by unfold inW at q; (try dsimp only); omega)), relA_k hA (fun c k q => e c k (by unfold inA at q; (try dsimp only); omega)), ?_, relP_k hP (fun c k q => e c k (by unfold inP at q; (try dsimp only); omega)), relR_k hR (fun c k q => e c k (by unfold inR at q; (try dsimp only); omega)), ?_, ?_, ?_⟩
  · obtain ⟨w1, w2, w3, w4, w5⟩ := hW
    obtain ⟨x1, x2, x3, x4, x5, x6, x7, x8⟩ := w5 hn
    have h8 := w1.2
    refine ⟨a5.trans a7.symm, Or.inr a5, fun _ => ⟨by rw [n39]; exact hn, a1, by rw [n39]; exact a2, ?_, ?_, ?_⟩⟩
    · rw [a3, n39, ← x2, VM_vA, w3]
      exact (vA_c (fun b _ => ⟨e 105 _ (by (try dsimp only); omega), e 105 _ (by (try dsimp only); omega)⟩) (fun b q hb hq => by rw [Nat.zero_add]; exact a6 _ (by omega))).symm
    · rw [a4, a6 48 (by decide)]; exact w4.symm
    · rw [n39, C4, a3, a4, x1]; exact x3
  · rw [e 0 17 (by (try dsimp only); omega), e 91 24 (by (try dsimp only); omega)]; exact hg
  · rw [e 91 25 (by (try dsimp only); omega)]; exact h25
  · rw [e 91 26 (by (try dsimp only); omega)]; exact h26
