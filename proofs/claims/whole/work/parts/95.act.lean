/-! ===== an act on both sides keeps the relation ===== -/
def actF (c k : Nat) : Prop := c = 81 ∨ c = 80 ∨ c = 110 ∨ (c = 91 ∧ (k = 31 ∨ k = 26)) ∨ (40 ≤ c ∧ c ≤ 47) ∨ (c = 39 ∧ k = 9) ∨ c = 106 ∨ c = 10 ∨ (76 ≤ c ∧ c ≤ 78) ∨ c = 100 ∨ c = 101 ∨ (107 ≤ c ∧ c ≤ 109)
theorem rho_0 {nx : Nat} (h : nx < 40) : rho (nxA nx) 0 = nx := by
  unfold rho nxA
  split <;> omega
theorem rho_s {nx j : Nat} (h : nx < 40) (hj : j < 39) : rho (nxA nx) (j + 1) = rho nx j := by
  unfold rho nxA
  split <;> omega
theorem rho_ne {nx j : Nat} (h : nx < 40) (hj : j < 39) : ¬ rho nx j = nx := by
  unfold rho
  omega
theorem rho_lt {nx j : Nat} : rho nx j < 40 := Nat.mod_lt _ (by decide)
set_option maxHeartbeats 4000000 in
theorem Rel_act {I I2 : Nat → Nat → Int32} {a nx : Nat} (h : Rel I) (ha : I 80 2 = nI a) (hnx : I 80 1 = nI nx) (ha4 : a ≤ 40) (hnx4 : nx < 40) (hn : 0 < nF I 39)
    (c1 : ∀ p, p < 49 → I2 81 (49 * nx + p) = wv I p) (c2 : ∀ k, k < 49 * nx ∨ 49 * nx + 49 ≤ k → I2 81 k = I 81 k) (c3 : I2 80 1 = nI (nxA nx)) (c4 : I2 80 2 = nI (ctA a))
    (d1 : I2 91 31 = nI (ctA a)) (d2 : ∀ k, k < 49 → I2 110 (49 * (ctA a - 1) + k) = I 106 k) (d3 : ∀ k, k < 49 * (ctA a - 1) → I2 110 k = if a = 40 then I 110 (k + 49) else I 110 k)
    (s1 : I2 106 48 = I2 39 9) (v1 : VM I2 = VF I2 39) (v2 : FOk 19 (nF I 39) (lv7 (I 27)) (VF I2 39) (I2 39 9)) (h26' : I2 91 26 = 0) (e : fr actF I I2) : Rel I2 := by
  obtain ⟨hT, hK, hW, hA, hI, hP, hR, hg, h25, h26⟩ := h
  obtain ⟨w1, w2, w3, w4, w5⟩ := hW
  obtain ⟨x1, x2, x3, x4, x5, x6, x7, x8⟩ := w5 hn
  have hn8 := w1.2
  have e8 : I2 39 8 = I 39 8 := e 39 8 (by unfold actF; omega)
  have n39 : nF I2 39 = nF I 39 := by unfold nF; rw [e8]
  have e22 : I2 91 22 = I 91 22 := e 91 22 (by unfold actF; omega)
  have nMe : nM I2 = nM I := by unfold nM; rw [e22]
  have C4 : lv7 (I2 104) = lv7 (I 104) := lv7_fr (fun k => e 104 k (by unfold actF; omega))
  have C7 : lv7 (I2 27) = lv7 (I 27) := lv7_fr (fun k => e 27 k (by unfold actF; omega))
  obtain ⟨n30, V30, o30, s30⟩ := FF_fr (I := I) (I1 := I2) (f := 30) (fun c k h1 h2 => e c k (by unfold actF; omega))
  refine ⟨relT_k hT (fun c k q => e c k (by unfold inT at q; unfold actF; omega)), relK_k hK (fun c k q => e c k (by unfold inK at q; unfold actF; omega)), ?_, ?_, relI_k hI (fun c k q => e c k (by unfold inI at q; unfold actF; omega)), relP_k hP (fun c k q => e c k (by unfold inP at q; unfold actF; omega)), relR_k hR (fun c k q => e c k (by unfold inR at q; unfold actF; omega)), by rw [e 0 17 (by unfold actF; omega), e 91 24 (by unfold actF; omega)]; exact hg, by rw [e 91 25 (by unfold actF; omega)]; exact h25, h26'⟩
  · refine ⟨⟨by rw [n39, e8]; exact w1.1, by rw [n39]; exact hn8⟩, ⟨by rw [nMe, e22]; exact w2.1, by rw [nMe]; exact w2.2⟩, by rw [nMe, n39]; exact w3, s1, fun _ => ?_⟩
    rw [C4, C7, n39, n30, s30, V30, vB_c (I := I) (I1 := I2) (fun k _ => e 105 k (by unfold actF; omega))]
    exact ⟨x1, v1, v2, o30 x4, x5, x6, x7, x8⟩
  · obtain ⟨a', nx', w1', w2', w3', w4', w5', w6', w7'⟩ := hA
    have ea : a' = a := by
      have := w3'.symm.trans ha
      rwa [jn_eq (by omega) (by omega)] at this
    have en : nx' = nx := by
      have := w5'.symm.trans hnx
      rwa [jn_eq (by omega) (by omega)] at this
    subst ea
    subst en
    have hct : ctA a' ≤ 40 ∧ 0 < ctA a' := by unfold ctA; split <;> omega
    refine ⟨ctA a', nxA nx', hct.1, by unfold nxA; split <;> omega, c4, d1, c3, fun _ => by rw [n39]; exact hn, fun j hj => ?_⟩
    rw [n39, C4]
    have h5 : ∀ b, b < nF I 39 → I2 105 (6 * b + 3) = I 105 (6 * b + 3) ∧ I2 105 (6 * b + 4) = I 105 (6 * b + 4) := fun b _ => ⟨e 105 _ (by unfold actF; omega), e 105 _ (by unfold actF; omega)⟩
    cases j with
    | zero =>
      rw [rho_0 w2', show ctA a' - 1 - 0 = ctA a' - 1 by omega]
      refine ⟨fun b q hb hq => ?_, ?_, ?_⟩
      · rw [d2 _ (by omega), show 49 * nx' + 1 + (6 * b + q) = 49 * nx' + (1 + 6 * b + q) by omega, c1 _ (by omega), wv_q I hq]
        have hv : ∀ k, VM I k b = VF I 39 k b := fun k => by rw [x2]
        have hbM : b < nM I := by rw [w3]; exact hb
        rcases (by omega : q = 0 ∨ q = 1 ∨ q = 2 ∨ q = 3 ∨ q = 4 ∨ q = 5) with rfl | rfl | rfl | rfl | rfl | rfl
        · have := hv 0; rw [VM_0 hbM, VF_0 hb] at this; exact this.symm
        · have := hv 1; rw [VM_1 hbM, VF_1 hb] at this; exact this.symm
        · have := hv 2; rw [VM_2 hbM, VF_2 hb] at this; exact this.symm
        · have := hv 5; rw [VM_5 hbM, VF_5 hb] at this; exact this.symm
        · have := hv 6; rw [VM_6 hbM, VF_6 hb] at this; exact this.symm
        · have := hv 7; rw [VM_7 hbM, VF_7 hb] at this; exact this.symm
      · rw [d2 48 (by decide), show 49 * nx' = 49 * nx' + 0 by omega, c1 0 (by decide)]
        exact w4.symm
      · rw [d2 48 (by decide), w4, show vA (nF I 39) I2 110 (49 * (ctA a' - 1)) = vA (nF I 39) I 106 0 from vA_c h5 (fun b q hb hq => by rw [d2 _ (by omega), Nat.zero_add])]
        have : vA (nF I 39) I 106 0 = VM I := by rw [VM_vA, w3]
        rw [this, x2, x1]
        exact x3
    | succ j =>
      have hj39 : j < 39 := by omega
      rw [rho_s w2' hj39]
      have hja : j < a' := by unfold ctA at hj; split at hj <;> omega
      obtain ⟨y1, y2, y3⟩ := w7' j hja
      have hr := rho_ne w2' hj39
      have hrl := rho_lt (nx := nx') (j := j)
      have row : ∀ k, k < 49 → I2 110 (49 * (ctA a' - 1 - (j + 1)) + k) = I 110 (49 * (a' - 1 - j) + k) := fun k hk => by
        rw [d3 _ (by omega)]
        by_cases z : a' = 40
        · rw [if_pos z]
          have : ctA a' = 40 := by unfold ctA; rw [if_neg (by omega), z]
          rw [this]; congr 1; omega
        · rw [if_neg z]
          have : ctA a' = a' + 1 := by unfold ctA; rw [if_pos (by omega)]
          rw [this]; congr 1; omega
      have old : ∀ k, k < 49 → I2 81 (49 * rho nx' j + k) = I 81 (49 * rho nx' j + k) := fun k hk => c2 _ (by omega)
      refine ⟨fun b q hb hq => ?_, ?_, ?_⟩
      · rw [row _ (by omega), Nat.add_assoc, old _ (by omega), ← Nat.add_assoc]; exact y1 b q hb hq
      · have o0 := old 0 (by decide)
        rw [Nat.add_zero] at o0
        rw [row 48 (by decide), o0]; exact y2
      · rw [row 48 (by decide), show vA (nF I 39) I2 110 (49 * (ctA a' - 1 - (j + 1))) = vA (nF I 39) I 110 (49 * (a' - 1 - j)) from vA_c h5 (fun b q hb hq => row _ (by omega))]
        exact y3
/-- one number of one boat set, remembered ahead -/
theorem FOk_v {u : Int} {n b k : Nat} {C : Nat → Int32} {F : Vw} {s x : Int32} (h : FOk u n C F s) (hk : 5 ≤ k) : FOk u n C (vup F k b x) s := by
  refine ⟨h.1, h.2.1, fun i hi => ?_⟩
  have := h.2.2 i hi
  unfold bOk at this ⊢
  rw [vup_k (by omega), vup_k (by omega), vup_k (by omega), vup_k (by omega), vup_k (by omega)]
  exact this
theorem FOk_2 {u : Int} {n b : Nat} {C : Nat → Int32} {F : Vw} {s x : Int32} (h : FOk u n C F s) (hx : b < n → 0 ≤ x.toInt ∧ x.toInt ≤ (F 3 b).toInt) : FOk u n C (vup F 2 b x) s := by
  refine ⟨h.1, h.2.1, fun i hi => ?_⟩
  have := h.2.2 i hi
  unfold bOk at this ⊢
  rw [vup_k (k' := 0) (by omega), vup_k (k' := 1) (by omega), vup_k (k' := 3) (by omega), vup_k (k' := 4) (by omega)]
  by_cases z : i = b
  · subst z; rw [vup_s]; exact ⟨this.1, this.2.1, hx hi, this.2.2.2⟩
  · rw [vup_b z]; exact this
theorem FOk_0 {u : Int} {n b : Nat} {C : Nat → Int32} {F : Vw} {s x : Int32} (h : FOk u n C F s) (hx : 0 ≤ x.toInt ∧ x.toInt < (C 0).toInt) : FOk u n C (vup F 0 b x) s := by
  refine ⟨h.1, h.2.1, fun i hi => ?_⟩
  have := h.2.2 i hi
  unfold bOk at this ⊢
  rw [vup_k (k' := 1) (by omega), vup_k (k' := 2) (by omega), vup_k (k' := 3) (by omega), vup_k (k' := 4) (by omega)]
  by_cases z : i = b
  · subst z; rw [vup_s]; exact ⟨hx, this.2⟩
  · rw [vup_b z]; exact this
/-- the class remembers -/
def remC (I : Nat → Nat → Int32) (nx a : Nat) (A : Nat → Nat → Int32) : Prop := ∃ A0, wrP I (49 * nx) 49 A0 ∧ fr (fun c _ => c = 80) A0 A ∧ A 80 1 = nI (nxA nx) ∧ A 80 2 = nI (ctA a)
theorem remC_fr {I A : Nat → Nat → Int32} {nx a : Nat} (h : remC I nx a A) : fr (fun c _ => c = 80 ∨ c = 81) I A := by
  obtain ⟨A0, h1, h2, -, -⟩ := h
  intro c k w
  dsimp only at w
  rw [h2 c k (by (try dsimp only); omega)]; exact h1.2.2 c k (by (try dsimp only); omega)
theorem remC_81 {I A : Nat → Nat → Int32} {nx a : Nat} (h : remC I nx a A) : (∀ p, p < 49 → A 81 (49 * nx + p) = wv I p) ∧ ∀ k, k < 49 * nx ∨ 49 * nx + 49 ≤ k → A 81 k = I 81 k := by
  obtain ⟨A0, h1, h2, -, -⟩ := h
  exact ⟨fun p hp => by rw [h2 81 _ (by (try dsimp only); omega)]; exact h1.1 p hp, fun k hk => by rw [h2 81 k (by (try dsimp only); omega)]; exact h1.2.1 k hk⟩
/-- the reference keeps -/
def keepM (I : Nat → Nat → Int32) (a : Nat) (B : Nat → Nat → Int32) : Prop := B 91 31 = nI (ctA a) ∧ (∀ k, k < 49 → B 110 (49 * (ctA a - 1) + k) = I 106 k) ∧ (∀ k, k < 49 * (ctA a - 1) → B 110 k = if a = 40 then I 110 (k + 49) else I 110 k) ∧ fr (fun c k => c = 110 ∨ (c = 91 ∧ k = 31)) I B
def setK (k mo : Nat) : Prop := (k = 0 ∧ mo = 0) ∨ (k = 2 ∧ mo = 2) ∨ (k = 5 ∧ mo = 3) ∨ (k = 6 ∧ mo = 4)
theorem Rel_set {I A B : Nat → Nat → Int32} {a nx b k mo : Nat} {x : Int32} (h : Rel I) (ha : I 80 2 = nI a) (hnx : I 80 1 = nI nx) (ha4 : a ≤ 40) (hnx4 : nx < 40) (hb : b < nF I 39) (hk : setK k mo) (hA : remC I nx a A) (hB : keepM (mj_ui A (40 + k) b x) a B) (ok : FOk 19 (nF I 39) (lv7 (I 27)) (vup (VF I 39) k b x) (I 39 9)) : Rel (mj_ui B 106 (6 * b + mo) x) := by
  obtain ⟨w1, w2, w3, w4, w5⟩ := id h.2.2.1
  have hn : 0 < nF I 39 := by omega
  have hn8 := w1.2
  have hk8 : k < 8 ∧ mo < 6 := by unfold setK at hk; omega
  obtain ⟨x1, x2, x3, -⟩ := w5 hn
  have aF := remC_fr hA
  obtain ⟨c1, c2⟩ := remC_81 hA
  obtain ⟨A0, -, -, c3, c4⟩ := hA
  obtain ⟨b1, b2, b3, b4⟩ := hB
  have gA : ∀ c j, ¬ c = 40 + k → (mj_ui A (40 + k) b x) c j = A c j := fun c j z => ui_c z
  have gB : ∀ c j, ¬ c = 110 → ¬ (c = 91 ∧ j = 31) → ¬ c = 106 → (mj_ui B 106 (6 * b + mo) x) c j = (mj_ui A (40 + k) b x) c j := fun c j z1 z2 z3 => by rw [ui_c z3]; exact b4 c j (by (try dsimp only); omega)
  have hi : ∀ c j, 91 ≤ c → (mj_ui A (40 + k) b x) c j = I c j := fun c j hc => by rw [gA c j (by omega)]; exact aF c j (by (try dsimp only); omega)
  have V : VF (mj_ui B 106 (6 * b + mo) x) 39 = vup (VF I 39) k b x := by
    obtain ⟨n1, V1, -, -⟩ := FF_fr (I := mj_ui A (40 + k) b x) (I1 := mj_ui B 106 (6 * b + mo) x) (f := 39) (fun c j h1 h2 => gB c j (by omega) (by omega) (by omega))
    obtain ⟨n2, V2, -, -⟩ := FF_fr (I := I) (I1 := A) (f := 39) (fun c j h1 h2 => aF c j (by (try dsimp only); omega))
    rw [V1, show 40 + k = 39 + 1 + k by omega, VF_ui k hk8.1 (by rw [n2]; exact hb), V2]
  have VM' : VM (mj_ui B 106 (6 * b + mo) x) = vup (VF I 39) k b x := by
    obtain ⟨n1, V1, -⟩ := MM_fr (I := I) (I1 := B) (by rw [b4 91 22 (by (try dsimp only); omega)]; exact hi 91 22 (by omega)) (fun j => by rw [b4 105 j (by (try dsimp only); omega)]; exact hi 105 j (by omega)) (fun j => by rw [b4 106 j (by (try dsimp only); omega)]; exact hi 106 j (by omega))
    rw [VM_ui mo hk8.2 (by rw [n1, w3]; exact hb), V1, x2]
    unfold setK at hk
    rcases hk with ⟨rfl, rfl⟩ | ⟨rfl, rfl⟩ | ⟨rfl, rfl⟩ | ⟨rfl, rfl⟩ <;> rfl
  have s9 : (mj_ui B 106 (6 * b + mo) x) 39 9 = I 39 9 := by rw [gB 39 9 (by omega) (by omega) (by omega), gA 39 9 (by omega)]; exact aF 39 9 (by (try dsimp only); omega)
  refine Rel_act (a := a) (nx := nx) h ha hnx ha4 hnx4 hn (fun p hp => ?_) (fun j hj => ?_) ?_ ?_ ?_ (fun j hj => ?_) (fun j hj => ?_) ?_ (VM'.trans V.symm) (by rw [V, s9]; exact ok) ?_ (fun c j w => ?_)
  · rw [gB 81 _ (by omega) (by omega) (by omega), gA 81 _ (by omega)]; exact c1 p hp
  · rw [gB 81 _ (by omega) (by omega) (by omega), gA 81 _ (by omega)]; exact c2 j hj
  · rw [gB 80 1 (by omega) (by omega) (by omega), gA 80 1 (by omega)]; exact c3
  · rw [gB 80 2 (by omega) (by omega) (by omega), gA 80 2 (by omega)]; exact c4
  · rw [ui_c (by decide)]; exact b1
  · rw [ui_c (by decide), b2 j hj]; exact hi 106 j (by omega)
  · rw [ui_c (by decide), b3 j hj, hi 110 _ (by omega), hi 110 _ (by omega)]
  · rw [ui_k (by omega), s9, b4 106 48 (by (try dsimp only); omega), hi 106 48 (by omega)]; exact w4
  · rw [ui_c (by decide), b4 91 26 (by (try dsimp only); omega), hi 91 26 (by omega)]; exact h.2.2.2.2.2.2.2.2.2
  · unfold actF at w
    unfold setK at hk
    rw [gB c j (by omega) (by omega) (by omega), gA c j (by omega)]; exact aF c j (by (try dsimp only); omega)
