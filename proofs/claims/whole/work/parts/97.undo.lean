/-! ===== undo on both sides ===== -/
theorem rho_p {nx : Nat} (h : nx < 40) : rho nx 0 = prA nx ∧ prA nx < 40 := by
  unfold rho prA
  split <;> omega
theorem rho_ps {nx j : Nat} (h : nx < 40) (hj : j < 39) : rho (prA nx) j = rho nx (j + 1) := by
  unfold rho prA
  split <;> omega
def unF (c k : Nat) : Prop := c = 80 ∨ (40 ≤ c ∧ c ≤ 42) ∨ (45 ≤ c ∧ c ≤ 47) ∨ (c = 39 ∧ k = 9) ∨ (c = 106 ∧ k < 49) ∨ (c = 91 ∧ k = 31)
set_option maxHeartbeats 4000000 in
theorem Rel_undo {I I2 : Nat → Nat → Int32} {a nx : Nat} (h : Rel I) (ha : I 80 2 = nI (a + 1)) (hnx : I 80 1 = nI nx) (ha4 : a < 40) (hnx4 : nx < 40) (c1 : I2 80 1 = nI (prA nx)) (c2 : I2 80 2 = nI a) (c3 : ∀ p, p < 48 → I2 (aF (p % 6)) (p / 6) = I 81 (49 * prA nx + 1 + p)) (c4 : I2 39 9 = I 81 (49 * prA nx)) (d1 : I2 91 31 = nI a) (d2 : ∀ k, k < 49 → I2 106 k = I 110 (49 * a + k)) (e : fr unF I I2) : Rel I2 := by
  obtain ⟨hT, hK, hW, hA, hI, hP, hR, hg, h25, h26⟩ := h
  obtain ⟨w1, w2, w3, w4, w5⟩ := hW
  obtain ⟨a', nx', w1', w2', w3', w4', w5', w6', w7'⟩ := hA
  have ea : a' = a + 1 := by
    have := w3'.symm.trans ha
    rwa [jn_eq (by omega) (by omega)] at this
  have en : nx' = nx := by
    have := w5'.symm.trans hnx
    rwa [jn_eq (by omega) (by omega)] at this
  subst ea
  subst en
  have hn := w6' (by omega)
  obtain ⟨x1, x2, x3, x4, x5, x6, x7, x8⟩ := w5 hn
  have hn8 := w1.2
  have e8 : I2 39 8 = I 39 8 := e 39 8 (by unfold unF; omega)
  have n39 : nF I2 39 = nF I 39 := by unfold nF; rw [e8]
  have e22 : I2 91 22 = I 91 22 := e 91 22 (by unfold unF; omega)
  have nMe : nM I2 = nM I := by unfold nM; rw [e22]
  have C4 : lv7 (I2 104) = lv7 (I 104) := lv7_fr (fun k => e 104 k (by unfold unF; omega))
  have C7 : lv7 (I2 27) = lv7 (I 27) := lv7_fr (fun k => e 27 k (by unfold unF; omega))
  obtain ⟨n30, V30, o30, s30⟩ := FF_fr (I := I) (I1 := I2) (f := 30) (fun c k h1 h2 => e c k (by unfold unF; omega))
  obtain ⟨y1, y2, y3⟩ := w7' 0 (by omega)
  obtain ⟨r0, r1⟩ := rho_p w2'
  rw [r0, show a + 1 - 1 - 0 = a by omega] at y1 y2
  rw [show a + 1 - 1 - 0 = a by omega] at y3
  have row : ∀ b q, b < nF I 39 → q < 6 → I2 (aF q) b = I 110 (49 * a + (6 * b + q)) := fun b q hb hq => by
    have := c3 (6 * b + q) (by omega)
    rw [show (6 * b + q) % 6 = q by omega, show (6 * b + q) / 6 = b by omega] at this
    rw [this]; exact y1 b q hb hq
  have hv : ∀ j b, VM I j b = VF I 39 j b := fun j b => by rw [x2]
  have VA : vA (nF I 39) I2 106 0 = vA (nF I 39) I 110 (49 * a) := vA_c (fun b _ => ⟨e 105 _ (by unfold unF; omega), e 105 _ (by unfold unF; omega)⟩) (fun b q hb hq => by rw [Nat.zero_add]; exact d2 _ (by omega))
  have VM2 : VM I2 = vA (nF I 39) I 110 (49 * a) := by rw [VM_vA, nMe, w3]; exact VA
  have VF2 : VF I2 39 = vA (nF I 39) I 110 (49 * a) := by
    funext k b
    unfold VF vF vA
    rw [n39]
    by_cases hb : b < nF I 39
    · simp only [hb, if_true]
      have hbM : b < nM I := by rw [w3]; exact hb
      match k with
      | 0 => exact row b 0 hb (by decide)
      | 1 => exact row b 1 hb (by decide)
      | 2 => exact row b 2 hb (by decide)
      | 3 => exact (e 43 b (by unfold unF; omega)).trans (by have := hv 3 b; rw [VM_3 hbM, VF_3 hb] at this; exact this.symm)
      | 4 => exact (e 44 b (by unfold unF; omega)).trans (by have := hv 4 b; rw [VM_4 hbM, VF_4 hb] at this; exact this.symm)
      | 5 => exact row b 3 hb (by decide)
      | 6 => exact row b 4 hb (by decide)
      | 7 => exact row b 5 hb (by decide)
      | k + 8 => rw [if_neg (by omega)]; rfl
    · simp only [hb, if_false]
  have S : I2 39 9 = I 110 (49 * a + 48) := c4.trans y2
  refine ⟨relT_k hT (fun c k q => e c k (by unfold inT at q; unfold unF; omega)), relK_k hK (fun c k q => e c k (by unfold inK at q; unfold unF; omega)), ?_, ?_, relI_k hI (fun c k q => e c k (by unfold inI at q; unfold unF; omega)), relP_k hP (fun c k q => e c k (by unfold inP at q; unfold unF; omega)), relR_k hR (fun c k q => e c k (by unfold inR at q; unfold unF; omega)), by rw [e 0 17 (by unfold unF; omega), e 91 24 (by unfold unF; omega)]; exact hg, by rw [e 91 25 (by unfold unF; omega)]; exact h25, by rw [e 91 26 (by unfold unF; omega)]; exact h26⟩
  · refine ⟨⟨by rw [n39, e8]; exact w1.1, by rw [n39]; exact hn8⟩, ⟨by rw [nMe, e22]; exact w2.1, by rw [nMe]; exact w2.2⟩, by rw [nMe, n39]; exact w3, by rw [d2 48 (by decide), S], fun _ => ?_⟩
    rw [C4, C7, n39, n30, s30, V30, vB_c (I := I) (I1 := I2) (fun k _ => e 105 k (by unfold unF; omega)), VM2, VF2, S]
    refine ⟨x1, rfl, ?_, o30 x4, x5, x6, x7, x8⟩
    rw [← x1]; exact y3
  · refine ⟨a, prA nx', by omega, r1, c2, d1, c1, fun _ => by rw [n39]; exact hn, fun j hj => ?_⟩
    obtain ⟨z1, z2, z3⟩ := w7' (j + 1) (by omega)
    rw [n39, C4, rho_ps w2' (by omega)]
    rw [show a + 1 - 1 - (j + 1) = a - 1 - j by omega] at z1 z2 z3
    have E : ∀ k, I2 110 k = I 110 k := fun k => e 110 k (by unfold unF; omega)
    have E81 : ∀ k, I2 81 k = I 81 k := fun k => e 81 k (by unfold unF; omega)
    rw [E, vA_c (I := I) (I1 := I2) (c := 110) (c' := 110) (o := 49 * (a - 1 - j)) (o' := 49 * (a - 1 - j)) (fun b _ => ⟨e 105 _ (by unfold unF; omega), e 105 _ (by unfold unF; omega)⟩) (fun b q _ _ => E _)]
    exact ⟨fun b q hb hq => by rw [E81, E]; exact z1 b q hb hq, by rw [E81]; exact z2, z3⟩
theorem two_undo {Ω : mj_Om} {l : Launch} {I : Nat → Nat → Int32} {J : Nat → Nat → Int64} (h : Rel I) : Two Ω l mX11_undo mX12_undo [] I J := by
  obtain ⟨a, nx, a1, a2, a3, a4, a5⟩ := relA_g h
  refine inX11_undo (Nat.le_of_ble_eq_true rfl) I J ?_
  rw [a3]
  by_cases q : a = 0
  · rw [if_pos (by rw [q]; rfl)]
    refine ⟨_, I, J, rfl, rfl, mnX12_undo (Nat.le_of_ble_eq_true rfl) a I J ⟨a4, a1⟩ (fun B hB => ⟨B, J, ?_, rfl, ?_⟩)⟩
    · rw [if_pos q]
    · rw [hB.1 q]; exact h
  rw [if_neg (by rw [show (0 : Int32) = nI 0 from rfl, jn_eq (by omega) (by omega)]; exact q)]
  have ea : nI a = nI (a - 1 + 1) := by rw [Nat.sub_add_cancel (by omega)]
  refine ⟨⟨by trivial, by trivial, mj_isk_mk _ _⟩, nx, a - 1, ⟨a5, a2, ea, by omega⟩, fun A hA => ?_⟩
  obtain ⟨A0, b1, b2, b3, b4, b5, b6⟩ := hA
  have g : ∀ c k, ¬ c = 80 → ¬ ((c = 39 ∧ k = 9) ∨ (40 ≤ c ∧ c ≤ 47 ∧ c ≠ 43 ∧ c ≠ 44)) → A c k = I c k := fun c k z1 z2 => by rw [b6 c k z2]; exact b1 c k z1
  refine ⟨_, A, J, rfl, rfl, mnX12_undo (Nat.le_of_ble_eq_true rfl) a A J ⟨by rw [g 91 31 (by decide) (by omega)]; exact a4, a1⟩ (fun B hB => ?_)⟩
  obtain ⟨c1, c2, c3⟩ := hB.2 (by omega)
  have f80 : ∀ k, A 80 k = A0 80 k := fun k => b6 80 k (by (try dsimp only); omega)
  refine ⟨B, J, ?_, rfl, Rel_undo (a := a - 1) (nx := nx) h (a3.trans ea) a5 (by omega) a2 ?_ ?_ (fun p hp => ?_) ?_ c1 (fun k hk => ?_) (fun c k w => ?_)⟩
  · rw [if_neg q, f80, b3]
  · rw [c3 80 1 (by (try dsimp only); omega), f80]; exact b2
  · rw [c3 80 2 (by (try dsimp only); omega), f80]; exact b3
  · have := aF_b (p % 6)
    rw [c3 _ _ (by (try dsimp only); omega), b4 p hp]; exact b1 81 _ (by (try dsimp only); omega)
  · rw [c3 39 9 (by (try dsimp only); omega), b5]; exact b1 81 _ (by (try dsimp only); omega)
  · rw [c2 k hk]; exact g 110 _ (by decide) (by omega)
  · unfold unF at w
    rw [c3 c k (by (try dsimp only); omega)]; exact g c k (by omega) (by omega)
