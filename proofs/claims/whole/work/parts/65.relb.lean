/-! ===== back keeps the relation ===== -/
theorem Rel_back {I I2 : Nat → Nat → Int32} (h : Rel I) (h1 : I 0 16 = 1) (a1 : okF I2 39) (a2 : nF I2 39 = nF I 66) (a3 : VF I2 39 = VF I 66) (a4 : I2 39 9 = I 66 9) (a5 : I2 80 2 = 0) (a6 : ∀ k, k < 49 → I2 106 k = I 119 k) (a7 : I2 91 31 = 0) (e : fr (fun c k => (39 ≤ c ∧ c ≤ 47) ∨ (c = 80 ∧ k = 2) ∨ (c = 106 ∧ k < 49) ∨ (c = 91 ∧ k = 31)) I I2) : Rel I2 := by
  obtain ⟨hT, hK, hW, hA, hI, hP, hR, hg, h25, h26⟩ := h
  obtain ⟨i1, i2, i3⟩ := id hI
  obtain ⟨y0, y1, y2, y3, y4, y5⟩ := i3 h1
  have n39 : nF I2 39 = nF I 39 := a2.trans y2
  have e8 : I2 39 8 = I 39 8 := by rw [a1.1, hW.1.1, n39]
  have e' : ∀ c k, ¬ ((39 ≤ c ∧ c ≤ 47) ∨ (c = 80 ∧ k = 2) ∨ (c = 106 ∧ k < 49) ∨ (c = 91 ∧ k = 31)) ∨ (c = 39 ∧ k = 8) → I2 c k = I c k := by
    intro c k q
    rcases q with q | q
    · exact e c k q
    · obtain ⟨rfl, rfl⟩ := q; exact e8
  have C4 : lv7 (I2 104) = lv7 (I 104) := lv7_fr (fun k => e 104 k (by (try dsimp only); omega))
  have C7 : lv7 (I2 27) = lv7 (I 27) := lv7_fr (fun k => e 27 k (by (try dsimp only); omega))
  obtain ⟨n30, V30, o30, s30⟩ := FF_fr (I := I) (I1 := I2) (f := 30) (fun c k h1 h2 => e c k (by (try dsimp only); omega))
  have e22 : I2 91 22 = I 91 22 := e 91 22 (by (try dsimp only); omega)
  have nMe : nM I2 = nM I := by unfold nM; rw [e22]
  refine ⟨relT_k hT (fun c k q => e' c k (by unfold inT at q; omega)), relK_k hK (fun c k q => e' c k (by unfold inK at q; omega)), ?_, ?_, relI_k hI (fun c k q => e' c k (by unfold inI at q; omega)), relP_k hP (fun c k q => e' c k (by unfold inP at q; omega)), relR_k hR (fun c k q => e' c k (by unfold inR at q; omega)), ?_, ?_, ?_⟩
  · obtain ⟨w1, w2, w3, w4, w5⟩ := hW
    obtain ⟨x1, x2, x3, x4, x5, x6, x7, x8⟩ := w5 y0
    have h8 := w1.2
    refine ⟨a1, ⟨by rw [e22, nMe]; exact w2.1, by rw [nMe]; exact w2.2⟩, by rw [nMe, n39]; exact w3, by rw [a6 48 (by decide), a4]; exact y4.symm, fun _ => ?_⟩
    rw [C4, C7, n39, a3, a4, n30, s30, V30, vB_c (I := I) (I1 := I2) (fun k _ => e 105 k (by (try dsimp only); omega))]
    refine ⟨x1, ?_, by rw [← x1]; exact y5, o30 x4, x5, x6, x7, x8⟩
    rw [VM_vA, nMe, w3, y3]
    exact vA_c (fun b _ => ⟨e 105 _ (by (try dsimp only); omega), e 105 _ (by (try dsimp only); omega)⟩) (fun b q hb hq => by rw [Nat.zero_add]; exact a6 _ (by omega))
  · obtain ⟨a, nx, w1, w2, w3, w4, w5, w6, w7⟩ := hA
    exact ⟨0, nx, by omega, w2, a5, a7, by rw [e 80 1 (by (try dsimp only); omega)]; exact w5, fun q => absurd q (Nat.lt_irrefl 0), fun j hj => absurd hj (Nat.not_lt_zero j)⟩
  · rw [e 0 17 (by (try dsimp only); omega), e 91 24 (by (try dsimp only); omega)]; exact hg
  · rw [e 91 25 (by (try dsimp only); omega)]; exact h25
  · rw [e 91 26 (by (try dsimp only); omega)]; exact h26
/-- what a query on either side may take for granted -/
theorem Rel_c {I : Nat → Nat → Int32} (h : Rel I) : ∃ m R, qC I m R ∧ qM I m R ∧ nM I = nF I 39 ∧ I 106 48 = I 39 9 ∧ (0 < nF I 39 → lv7 (I 104) = lv7 (I 27) ∧ VM I = VF I 39) := by
  obtain ⟨hT, hK, hW, hA, hI, hP, hR, hg, h25, h26⟩ := h
  obtain ⟨w1, w2, w3, w4, w5⟩ := hW
  obtain ⟨m, K, k1, k2⟩ := hK
  refine ⟨m, rfK m K, ⟨w1, ⟨K, k1, rfl⟩, fun hn => (w5 hn).2.2.1⟩, ⟨w2, ⟨K, k2, rfl⟩, fun hn => ?_, h25, h26⟩, w3, w4, fun hn => ⟨(w5 hn).1, (w5 hn).2.1⟩⟩
  rw [w3] at hn ⊢
  obtain ⟨x1, x2, x3, -⟩ := w5 hn
  rw [x1, x2, w4]
  exact x3
/-- an answer that looks at boats, line and second alone, and at nothing where no boat is -/
theorem alike {I : Nat → Nat → Int32} (h : Rel I) (g : Nat → (Nat → Int32) → Vw → Int32 → Int32) (h0 : ∀ C F s C' F' s', g 0 C F s = g 0 C' F' s') : g (nM I) (lv7 (I 104)) (VM I) (I 106 48) = g (nF I 39) (lv7 (I 27)) (VF I 39) (I 39 9) := by
  obtain ⟨m, R, -, -, w3, w4, w5⟩ := Rel_c h
  rw [w3]
  rcases Nat.eq_zero_or_pos (nF I 39) with q | q
  · rw [q]; exact h0 _ _ _ _ _ _
  · rw [(w5 q).1, (w5 q).2, w4]
theorem ok0 {b : Int32} : ¬ okBN 0 b := fun q => absurd (okBN_p q) (Nat.lt_irrefl 0)
theorem tide_al {I : Nat → Nat → Int32} (h : Rel I) : tideR (nM I) (lv7 (I 104)) (I 106 48) = tideR (nF I 39) (lv7 (I 27)) (I 39 9) :=
  alike h (fun n C _ s => tideR n C s) (fun C F s C' F' s' => by
    show tideR 0 C s = tideR 0 C' s'
    unfold tideR
    rw [cif_f (Nat.lt_irrefl 0), cif_f (Nat.lt_irrefl 0)])
theorem heap_al {I : Nat → Nat → Int32} {t : Int32} (h : Rel I) : heapR (nM I) (lv7 (I 104)) (VM I) t = heapR (nF I 39) (lv7 (I 27)) (VF I 39) t :=
  alike h (fun n C F _ => heapR n C F t) (fun C F s C' F' s' => by
    show heapR 0 C F t = heapR 0 C' F' t
    unfold heapR
    rw [cif_f (fun w => Nat.lt_irrefl 0 w.1), cif_f (fun w => Nat.lt_irrefl 0 w.1)])
theorem which_al {I : Nat → Nat → Int32} {t : Int32} (h : Rel I) : whichR (nM I) (lv7 (I 104)) (VM I) t = whichR (nF I 39) (lv7 (I 27)) (VF I 39) t :=
  alike h (fun n C F _ => whichR n C F t) (fun C F s C' F' s' => by
    show whichR 0 C F t = whichR 0 C' F' t
    unfold whichR
    rw [cif_f (fun w => Nat.lt_irrefl 0 w.1), cif_f (fun w => Nat.lt_irrefl 0 w.1)])
theorem hole_al {I : Nat → Nat → Int32} {b : Int32} (h : Rel I) : holeR (nM I) (VM I) b = holeR (nF I 39) (VF I 39) b :=
  alike h (fun n _ F _ => holeR n F b) (fun C F s C' F' s' => by
    show holeR 0 F b = holeR 0 F' b
    unfold holeR
    rw [cif_f ok0, cif_f ok0])
