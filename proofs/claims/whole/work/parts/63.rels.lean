/-! ===== the pieces of the relation, each kept where its own cells are kept ===== -/
def inT (c k : Nat) : Prop := (c = 1 ∧ k = 1) ∨ c = 2 ∨ c = 92 ∨ (c = 91 ∧ k = 2)
def inK (c k : Nat) : Prop := (c = 3 ∧ k = 3) ∨ (5 ≤ c ∧ c ≤ 9) ∨ (c = 91 ∧ k = 13) ∨ ((c = 93 ∨ c = 94) ∧ k < 2080) ∨ (c = 96 ∧ k < 4) ∨ ((97 ≤ c ∧ c ≤ 99) ∧ k < 560)
def inW (c k : Nat) : Prop := c = 27 ∨ (30 ≤ c ∧ c ≤ 47) ∨ (104 ≤ c ∧ c ≤ 106) ∨ (c = 91 ∧ k = 22)
def inA (c k : Nat) : Prop := (c = 80 ∧ (k = 1 ∨ k = 2)) ∨ c = 81 ∨ c = 110 ∨ (c = 91 ∧ k = 31) ∨ (c = 39 ∧ k = 8) ∨ c = 104 ∨ c = 105
def inI (c k : Nat) : Prop := (c = 0 ∧ k = 16) ∨ (c = 91 ∧ k = 44) ∨ (66 ≤ c ∧ c ≤ 74) ∨ c = 119 ∨ (c = 39 ∧ k = 8) ∨ c = 104 ∨ c = 105
def inP (c k : Nat) : Prop := (c = 86 ∧ k = 4) ∨ (c = 91 ∧ k = 40) ∨ (87 ≤ c ∧ c ≤ 89) ∨ (115 ≤ c ∧ c ≤ 117) ∨ (c = 39 ∧ k = 8)
def inR (c k : Nat) : Prop := (c = 86 ∧ k = 5) ∨ (c = 91 ∧ k = 42) ∨ c = 90 ∨ c = 118 ∨ (c = 39 ∧ k = 8)
theorem relT_k {I I1 : Nat → Nat → Int32} (h : relT I) (e : ∀ c k, inT c k → I1 c k = I c k) : relT I1 :=
  relT_fr h (e 1 1 (by unfold inT; omega)) (e 91 2 (by unfold inT; omega)) (fun k => e 2 k (by unfold inT; omega)) (fun k => e 92 k (by unfold inT; omega))
theorem CLM_k {I I1 : Nat → Nat → Int32} {r : Nat} {cs : List (List Int32 × List Int32)} (hr : r < 4) (h : CLM I r cs) (e : ∀ c k, inK c k → I1 c k = I c k) : CLM I1 r cs := by
  obtain ⟨h1, h2, h3, h4⟩ := h
  refine ⟨h1, h2, by rw [e 96 r (by unfold inK; omega)]; exact h3, fun c hc => ?_⟩
  obtain ⟨g0, g1, g2, g3, g4, g5⟩ := h4 c hc
  exact ⟨g0, by rw [e 97 _ (by unfold inK; omega)]; exact g1, by rw [e 98 _ (by unfold inK; omega)]; exact g2, by rw [e 99 _ (by unfold inK; omega)]; exact g3, fun j hj => by rw [e 93 _ (by unfold inK; omega), e 94 _ (by unfold inK; omega)]; exact g4 j hj, fun j hj => by rw [e 93 _ (by unfold inK; omega), e 94 _ (by unfold inK; omega)]; exact g5 j hj⟩
theorem relK_k {I I1 : Nat → Nat → Int32} (h : relK I) (e : ∀ c k, inK c k → I1 c k = I c k) : relK I1 := by
  obtain ⟨m, K, ⟨a1, a2, a3⟩, ⟨b1, b2, b3⟩⟩ := h
  refine ⟨m, K, ⟨by rw [e 3 3 (by unfold inK; omega)]; exact a1, a2, fun r hr => ?_⟩, ⟨by rw [e 91 13 (by unfold inK; omega)]; exact b1, b2, fun r hr => CLM_k (by omega) (b3 r hr) e⟩⟩
  obtain ⟨g1, g2, g3, g4⟩ := a3 r hr
  exact ⟨g1, g2, by rw [e 9 r (by unfold inK; omega)]; exact g3, fun j hj => by rw [e (5 + r) j (by unfold inK; omega)]; exact g4 j hj⟩
theorem relW_k {I I1 : Nat → Nat → Int32} (hW : relW I) (e : ∀ c k, inW c k → I1 c k = I c k) : relW I1 := by
  obtain ⟨n39, V39, o39, s39⟩ := FF_fr (I := I) (I1 := I1) (f := 39) (fun c k h1 h2 => e c k (by unfold inW; omega))
  obtain ⟨n30, V30, o30, s30⟩ := FF_fr (I := I) (I1 := I1) (f := 30) (fun c k h1 h2 => e c k (by unfold inW; omega))
  obtain ⟨nMe, VMe, oMe⟩ := MM_fr (I := I) (I1 := I1) (e 91 22 (by unfold inW; omega)) (fun k => e 105 k (by unfold inW; omega)) (fun k => e 106 k (by unfold inW; omega))
  have C4 : lv7 (I1 104) = lv7 (I 104) := lv7_fr (fun k => e 104 k (by unfold inW; omega))
  have C7 : lv7 (I1 27) = lv7 (I 27) := lv7_fr (fun k => e 27 k (by unfold inW; omega))
  obtain ⟨w1, w2, w3, w4, w5⟩ := hW
  refine ⟨o39 w1, oMe w2, by rw [nMe, n39]; exact w3, by rw [e 106 48 (by unfold inW; omega), s39]; exact w4, fun hn => ?_⟩
  rw [n39] at hn ⊢
  obtain ⟨x1, x2, x3, x4, x5, x6, x7, x8⟩ := w5 hn
  rw [C4, C7, VMe, V39, s39, n30, s30, V30, vB_c (I := I) (I1 := I1) (fun k _ => e 105 k (by unfold inW; omega))]
  exact ⟨x1, x2, x3, o30 x4, x5, x6, x7, x8⟩
theorem relA_k {I I1 : Nat → Nat → Int32} (hA : relA I) (e : ∀ c k, inA c k → I1 c k = I c k) : relA I1 := by
  have n39 : nF I1 39 = nF I 39 := by unfold nF; rw [e 39 8 (by unfold inA; omega)]
  have C4 : lv7 (I1 104) = lv7 (I 104) := lv7_fr (fun k => e 104 k (by unfold inA; omega))
  obtain ⟨a, nx, w1, w2, w3, w4, w5, w6, w7⟩ := hA
  refine ⟨a, nx, w1, w2, by rw [e 80 2 (by unfold inA; omega)]; exact w3, by rw [e 91 31 (by unfold inA; omega)]; exact w4, by rw [e 80 1 (by unfold inA; omega)]; exact w5, by rw [n39]; exact w6, fun j hj => ?_⟩
  obtain ⟨x1, x2, x3⟩ := w7 j hj
  rw [n39, C4, vA_c (I := I) (I1 := I1) (c := 110) (c' := 110) (o := 49 * (a - 1 - j)) (o' := 49 * (a - 1 - j)) (fun b _ => ⟨e 105 _ (by unfold inA; omega), e 105 _ (by unfold inA; omega)⟩) (fun b q _ _ => e 110 _ (by unfold inA; omega)), e 110 _ (by unfold inA; omega)]
  exact ⟨fun b q hb hq => by rw [e 81 _ (by unfold inA; omega), e 110 _ (by unfold inA; omega)]; exact x1 b q hb hq, by rw [e 81 _ (by unfold inA; omega)]; exact x2, x3⟩
theorem relI_k {I I1 : Nat → Nat → Int32} (hI : relI I) (e : ∀ c k, inI c k → I1 c k = I c k) : relI I1 := by
  have n39 : nF I1 39 = nF I 39 := by unfold nF; rw [e 39 8 (by unfold inI; omega)]
  obtain ⟨n66, V66, o66, s66⟩ := FF_fr (I := I) (I1 := I1) (f := 66) (fun c k h1 h2 => e c k (by unfold inI; omega))
  have C4 : lv7 (I1 104) = lv7 (I 104) := lv7_fr (fun k => e 104 k (by unfold inI; omega))
  obtain ⟨w1, w2, w3⟩ := hI
  refine ⟨by rw [e 0 16 (by unfold inI; omega), e 91 44 (by unfold inI; omega)]; exact w1, by rw [e 0 16 (by unfold inI; omega)]; exact w2, fun hq => ?_⟩
  rw [e 0 16 (by unfold inI; omega)] at hq
  obtain ⟨x0, x1, x2, x3, x4, x5⟩ := w3 hq
  rw [n39, n66, V66, s66, C4, vA_c (I := I) (I1 := I1) (c := 119) (c' := 119) (o := 0) (o' := 0) (fun b _ => ⟨e 105 _ (by unfold inI; omega), e 105 _ (by unfold inI; omega)⟩) (fun b q _ _ => e 119 _ (by unfold inI; omega)), e 119 _ (by unfold inI; omega)]
  exact ⟨x0, o66 x1, x2, x3, x4, x5⟩
theorem relP_k {I I1 : Nat → Nat → Int32} (hP : relP I) (e : ∀ c k, inP c k → I1 c k = I c k) : relP I1 := by
  have n39 : nF I1 39 = nF I 39 := by unfold nF; rw [e 39 8 (by unfold inP; omega)]
  obtain ⟨p, w1, w2, w3, w4⟩ := hP
  refine ⟨p, w1, by rw [e 86 4 (by unfold inP; omega)]; exact w2, by rw [e 91 40 (by unfold inP; omega)]; exact w3, fun b hb => ?_⟩
  rw [n39] at hb
  have hpc : pcn I1 b p = pcn I b p := cnt_c (fun i _ => by rw [e 115 i (by unfold inP; omega)])
  rw [e 87 b (by unfold inP; omega), e 88 b (by unfold inP; omega), e 89 b (by unfold inP; omega), hpc, plo_c (I := I) (fun k => e 115 k (by unfold inP; omega)) (fun k => e 116 k (by unfold inP; omega)), phi_c (I := I) (fun k => e 115 k (by unfold inP; omega)) (fun k => e 117 k (by unfold inP; omega))]
  exact w4 b hb
theorem relR_k {I I1 : Nat → Nat → Int32} (hR : relR I) (e : ∀ c k, inR c k → I1 c k = I c k) : relR I1 := by
  have n39 : nF I1 39 = nF I 39 := by unfold nF; rw [e 39 8 (by unfold inR; omega)]
  obtain ⟨r, w1, w2, w3, w5, w4⟩ := hR
  refine ⟨r, w1, by rw [e 86 5 (by unfold inR; omega)]; exact w2, by rw [e 91 42 (by unfold inR; omega)]; exact w3, by rw [n39]; exact w5, fun b hb => ?_⟩
  rw [n39] at hb
  rw [e 90 b (by unfold inR; omega), psum_c (I := I) (fun k => e 118 k (by unfold inR; omega))]
  exact w4 b hb
/-- a gust told to both -/
theorem Rel_gust {I : Nat → Nat → Int32} {x : Int32} (h : Rel I) : Rel (mj_ui (mj_ui I 0 17 x) 91 24 x) := by
  obtain ⟨hT, hK, hW, hA, hI, hP, hR, hg, h25, h26⟩ := h
  have e : ∀ c k, ¬ ((c = 0 ∧ k = 17) ∨ (c = 91 ∧ k = 24)) → (mj_ui (mj_ui I 0 17 x) 91 24 x) c k = I c k := fr_ui (S := fun c k => (c = 0 ∧ k = 17) ∨ (c = 91 ∧ k = 24)) (fr_ui fr_rf (Or.inl ⟨rfl, rfl⟩)) (Or.inr ⟨rfl, rfl⟩)
  refine ⟨relT_k hT (fun c k q => e c k (by unfold inT at q; omega)), relK_k hK (fun c k q => e c k (by unfold inK at q; omega)), relW_k hW (fun c k q => e c k (by unfold inW at q; omega)), relA_k hA (fun c k q => e c k (by unfold inA at q; omega)), relI_k hI (fun c k q => e c k (by unfold inI at q; omega)), relP_k hP (fun c k q => e c k (by unfold inP at q; omega)), relR_k hR (fun c k q => e c k (by unfold inR at q; omega)), ?_, ?_, ?_⟩
  · rw [ui_c (by decide), ui_s, ui_s]
  · rw [e 91 25 (by omega)]; exact h25
  · rw [e 91 26 (by omega)]; exact h26
/-- the tape cut on both -/
theorem Rel_end {I : Nat → Nat → Int32} {x : Int32} (h : Rel I) (h0 : ¬ x < 0) (h1 : ¬ I 1 1 < x) : Rel (mj_ui (mj_ui I 1 1 x) 91 2 x) := by
  obtain ⟨hT, hK, hW, hA, hI, hP, hR, hg, h25, h26⟩ := h
  have e : ∀ c k, ¬ ((c = 1 ∧ k = 1) ∨ (c = 91 ∧ k = 2)) → (mj_ui (mj_ui I 1 1 x) 91 2 x) c k = I c k := fr_ui (S := fun c k => (c = 1 ∧ k = 1) ∨ (c = 91 ∧ k = 2)) (fr_ui fr_rf (Or.inl ⟨rfl, rfl⟩)) (Or.inr ⟨rfl, rfl⟩)
  refine ⟨?_, relK_k hK (fun c k q => e c k (by unfold inK at q; omega)), relW_k hW (fun c k q => e c k (by unfold inW at q; omega)), relA_k hA (fun c k q => e c k (by unfold inA at q; omega)), relI_k hI (fun c k q => e c k (by unfold inI at q; omega)), relP_k hP (fun c k q => e c k (by unfold inP at q; omega)), relR_k hR (fun c k q => e c k (by unfold inR at q; omega)), ?_, ?_, ?_⟩
  · obtain ⟨t, t1, t2, t3, t4⟩ := hT
    have ex := jn_of (Int32.not_lt.mp h0)
    have hx : x.toNatClampNeg ≤ t := by
      rw [t2, ex, jn_lt (by omega) (cl_lt _)] at h1; omega
    refine ⟨x.toNatClampNeg, by omega, ?_, ?_, fun k hk => ?_⟩
    · rw [ui_c (by decide), ui_s]; exact ex
    · rw [ui_s]; exact ex
    · rw [e 2 k (by omega), e 92 k (by omega)]; exact t4 k (by omega)
  · rw [e 0 17 (by omega), e 91 24 (by omega)]; exact hg
  · rw [e 91 25 (by omega)]; exact h25
  · rw [e 91 26 (by omega)]; exact h26
