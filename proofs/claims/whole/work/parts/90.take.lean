/-! ===== a water taken, on both sides (by program, wip/whole/p90.py) ===== -/
def fgP (I : Nat → Nat → Int32) : Prop := I 86 4 = 0 ∧ I 86 5 = 0 ∧ ∀ i, i < 8 → I 87 i = 0 ∧ I 88 i = -20 ∧ I 89 i = 20 ∧ I 90 i = 0
def fgF (c k : Nat) : Prop := (87 ≤ c ∧ c ≤ 90) ∨ (c = 86 ∧ (k = 4 ∨ k = 5))
def csX5_forget : List (Nat × Nat × Nat × mj_PT) := []
theorem csX5_forget_ok : mj_Cs mX5_forget 1 csX5_forget := mj_Cs0
def cutX5_forget : List (Nat × List Bool) := [(12, [true, true])]
set_option maxRecDepth 100000 in
set_option maxHeartbeats 4000000 in
theorem inX5_forget {Ω : mj_Om} {l : Launch} {d : Nat} {Φ : Option Value → mj_M → Prop} (hd : 1 ≤ d) (I : Nat → Nat → Int32) (J : Nat → Nat → Int64)
    (h : ((mj_G Ω l false mX5_forget d 0 0 Φ 0 0 12 ([some (.ref 86), some (.int (0 : Int32))], [], (mk (mj_ui (mj_ui I 86 4 (0 : Int32)) 86 5 (0 : Int32)) J))))) :
    mj_Met Ω l false mX5_forget d 0 0 [.ref 86] (mk I J) Φ := mj_entry (by decide) rfl (fun h => (by cases h)) (Nat.le_of_ble_eq_true rfl) (mj_blk (μ := mX5_forget) (P := pX5_forget) (cut := cutX5_forget) (cs := csX5_forget) dX5_forget csX5_forget_ok hd 35 0 _ h)
set_option maxRecDepth 100000 in
set_option maxHeartbeats 4000000 in
theorem bX5_forget_12 {Ω : mj_Om} {l : Launch} {d : Nat} {Φ : Option Value → mj_M → Prop} (hd : 1 ≤ d) (x1 : Int32) (I : Nat → Nat → Int32) (J : Nat → Nat → Int64)
    (h : ((if x1 < (8 : Int32) then (mj_gd (mj_inB x1 8) (mj_gd (mj_inB x1 8) (mj_gd (mj_inB x1 8) (mj_gd (mj_inB x1 8) (mj_G Ω l false mX5_forget d 0 0 Φ 0 0 12 ([some (.ref 86), some (.int (x1 + (1 : Int32)))], [], (mk (mj_ui (mj_ui (mj_ui (mj_ui I 87 (x1).toNatClampNeg (0 : Int32)) 88 (x1).toNatClampNeg (-20 : Int32)) 89 (x1).toNatClampNeg (20 : Int32)) 90 (x1).toNatClampNeg (0 : Int32)) J))))))) else (Φ none (mk I J))))) :
    mj_G Ω l false mX5_forget d 0 0 Φ 0 0 12 ([some (.ref 86), some (.int x1)], [], mk I J) := mj_blk (μ := mX5_forget) (P := pX5_forget) (cut := cutX5_forget) (cs := csX5_forget) dX5_forget csX5_forget_ok hd 35 12 _ h
def tX5_forget : mj_PT := fun as M Φ => match as with
  | [.ref this] => ((this = 86 ∧ mj_isk M) ∧ (∀ I1 : Nat → Nat → Int32, (fgP I1 ∧ fr fgF M.2.2.1 I1) → Φ none (M.1, M.2.1, I1, M.2.2.2)))
  | _ => False
set_option maxHeartbeats 4000000 in
theorem mnX5_forget {Ω : mj_Om} {l : Launch} {d : Nat} {Φ : Option Value → mj_M → Prop} (hd : 1 ≤ d) (I : Nat → Nat → Int32) (J : Nat → Nat → Int64) (h : ∀ I1 : Nat → Nat → Int32, (fgP I1 ∧ fr fgF I I1) → Φ none (mk I1 J)) : mj_Met Ω l false mX5_forget d 0 0 [.ref 86] (mk I J) Φ := by
  refine inX5_forget hd I J ?_
  refine lp_inv (σ := Nat → Nat → Int32) (n := 8) (G := fun i A => mj_G Ω l false mX5_forget d 0 0 Φ 0 0 12 ([some (.ref 86), some (.int (nI i))], [], mk A J)) (fun i A => A 86 4 = 0 ∧ A 86 5 = 0 ∧ (∀ j, j < i → A 87 j = 0 ∧ A 88 j = -20 ∧ A 89 j = 20 ∧ A 90 j = 0) ∧ fr fgF I A) (fun i A hi hI hk => ?_) (fun A hI => ?_) 8 0 _ (by omega) ⟨by rw [ui_k (by decide), ui_s], ui_s, fun j hj => absurd hj (Nat.not_lt_zero j), fr_ui (fr_ui fr_rf (by unfold fgF; omega)) (by unfold fgF; omega)⟩
  · obtain ⟨a1, a2, a3, a4⟩ := hI
    refine bX5_forget_12 hd (nI i) A J ?_
    rw [if_pos (show nI i < 8 from nlt (a := i) (b := 8) hi (by omega))]
    simp (disch := omega) only [jn_in, jn_cl, gd_dec, jn_succ]
    refine hk _ ⟨by rw [ui_c (by decide), ui_c (by decide), ui_c (by decide), ui_c (by decide)]; exact a1, by rw [ui_c (by decide), ui_c (by decide), ui_c (by decide), ui_c (by decide)]; exact a2, fun j hj => ?_, fr_ui (fr_ui (fr_ui (fr_ui a4 (by unfold fgF; omega)) (by unfold fgF; omega)) (by unfold fgF; omega)) (by unfold fgF; omega)⟩
    by_cases z : j = i
    · subst z
      exact ⟨by rw [ui_c (by decide), ui_c (by decide), ui_c (by decide), ui_s], by rw [ui_c (by decide), ui_c (by decide), ui_s], by rw [ui_c (by decide), ui_s], ui_s⟩
    · rw [ui_c (c := 90) (c' := 87) (by decide), ui_c (c := 89) (c' := 87) (by decide), ui_c (c := 88) (c' := 87) (by decide), ui_k (c := 87) z, ui_c (c := 90) (c' := 88) (by decide), ui_c (c := 89) (c' := 88) (by decide), ui_k (c := 88) z, ui_c (c := 87) (c' := 88) (by decide), ui_c (c := 90) (c' := 89) (by decide), ui_k (c := 89) z, ui_c (c := 88) (c' := 89) (by decide), ui_c (c := 87) (c' := 89) (by decide), ui_k (c := 90) z, ui_c (c := 89) (c' := 90) (by decide), ui_c (c := 88) (c' := 90) (by decide), ui_c (c := 87) (c' := 90) (by decide)]
      exact a3 j (by omega)
  · refine bX5_forget_12 hd (nI 8) A J ?_
    rw [if_neg (by decide)]
    exact h A ⟨⟨hI.1, hI.2.1, hI.2.2.1⟩, hI.2.2.2⟩
theorem sdX5_forget : mj_Sd mX5_forget 1 tX5_forget := by
  intro Ω l d hd as M Φ h
  unfold tX5_forget at h
  split at h
  · rename_i z_this
    obtain ⟨⟨rfl, hM⟩, h⟩ := h
    rw [mj_isk_of hM]
    exact mnX5_forget hd _ _ (by
      rw [mj_isk_of hM] at h
      exact h)
  · exact h.elim
/-- the class has taken this water -/
def tkF (c k : Nat) : Prop := wFr c k ∨ c = 27 ∨ (30 ≤ c ∧ c ≤ 47) ∨ (c = 80 ∧ k = 2) ∨ fgF c k ∨ (c = 0 ∧ k = 16) ∨ (c = 1 ∧ k = 1)
def tkW (s : WS) (I I1 : Nat → Nat → Int32) : Prop := (∀ j, j < 7 → I1 27 j = s.2.1 j) ∧ okF I1 30 ∧ nF I1 30 = s.2.2.1 ∧ (∀ b, b < s.2.2.1 → ∀ k, k < 8 → VF I1 30 k b = cfB (s.2.2.2 b) k) ∧ I1 30 9 = 0 ∧ okF I1 39 ∧ nF I1 39 = s.2.2.1 ∧ VF I1 39 = VF I1 30 ∧ I1 39 9 = 0 ∧ I1 80 2 = 0 ∧ fgP I1 ∧ I1 0 16 = 0 ∧ I1 1 1 = 0 ∧ fr tkF I I1
def twR (r : Except Nat WS) : Int32 := match r with
  | .error _ => -1
  | .ok s => nI s.2.2.1
def csX11_takeWater : List (Nat × Nat × Nat × mj_PT) := [(117, 0, 1, mj_rcv 10 tX10_findFault), (129, 0, 2, mj_rcv 1 tX1_copyFrom), (134, 0, 2, mj_rcv 3 tX3_copyFrom), (137, 0, 1, mj_rcv 0 tX0_forget), (140, 0, 1, mj_rcv 5 tX5_forget)]
theorem csX11_takeWater_ok : mj_Cs mX11_takeWater 10 csX11_takeWater := (mj_CsV (D' := 9) (ci := 10) (q := (RX10, TX10, 5)) sdX10_findFault (Nat.le_of_ble_eq_true rfl) fX10_findFault rfl rfl iX10_findFault vX10_findFault (by decide +kernel) l11_117 (mj_CsV (D' := 2) (ci := 1) (q := (RX1, TX1, 1)) sdX1_copyFrom (Nat.le_of_ble_eq_true rfl) fX1_copyFrom rfl rfl iX1_copyFrom vX1_copyFrom (by decide +kernel) l11_129 (mj_CsV (D' := 1) (ci := 3) (q := (RX3, TX3, 10)) sdX3_copyFrom (Nat.le_of_ble_eq_true rfl) fX3_copyFrom rfl rfl iX3_copyFrom vX3_copyFrom (by decide +kernel) l11_134 (mj_CsV (D' := 1) (ci := 0) (q := (RX0, TX0, 3)) sdX0_forget (Nat.le_of_ble_eq_true rfl) fX0_forget rfl rfl iX0_forget vX0_forget (by decide +kernel) l11_137 (mj_CsV (D' := 1) (ci := 5) (q := (RX5, TX5, 6)) sdX5_forget (Nat.le_of_ble_eq_true rfl) fX5_forget rfl rfl iX5_forget vX5_forget (by decide +kernel) l11_140 mj_Cs0)))))
def cutX11_takeWater : List (Nat × List Bool) := []
set_option maxRecDepth 100000 in
set_option maxHeartbeats 4000000 in
theorem inX11_takeWater {Ω : mj_Om} {l : Launch} {d : Nat} {Φ : Option Value → mj_M → Prop} (hd : 10 ≤ d) (I : Nat → Nat → Int32) (J : Nat → Nat → Int64)
    (h : (((11 = 11 ∧ mj_isk (mk I J)) ∧ (∃ t3043 : Nat, (∃ τ3044 : Nat → Int32, ((TC I t3043 τ3044) ∧ (∀ I3045 : Nat → Nat → Int32, (fr wFr I I3045 ∧ ∀ s, wtP t3043 τ3044 = .ok s → wsC I3045 s) → (if (faR (wtP t3043 τ3044)) = (-1 : Int32) then ((isFG 30 15 ∧ mj_isk (mk (mj_uc I3045 27 (va_cpy (I3045 14) (I3045 27) 0 0 7)) J)) ∧ ((okF (mj_uc I3045 27 (va_cpy (I3045 14) (I3045 27) 0 0 7)) 15) ∧ (∀ I3047 : Nat → Nat → Int32, (okF I3047 30 ∧ nF I3047 30 = nF (mj_uc I3045 27 (va_cpy (I3045 14) (I3045 27) 0 0 7)) 15 ∧ VF I3047 30 = VF (mj_uc I3045 27 (va_cpy (I3045 14) (I3045 27) 0 0 7)) 15 ∧ I3047 30 9 = (mj_uc I3045 27 (va_cpy (I3045 14) (I3045 27) 0 0 7)) 15 9 ∧ fr (fun c _ => 30 ≤ c ∧ c ≤ 30 + 8) (mj_uc I3045 27 (va_cpy (I3045 14) (I3045 27) 0 0 7)) I3047) → ((isFG 39 30 ∧ mj_isk (mk I3047 J)) ∧ ((okF I3047 30) ∧ (∀ I3049 : Nat → Nat → Int32, (okF I3049 39 ∧ nF I3049 39 = nF I3047 30 ∧ VF I3049 39 = VF I3047 30 ∧ I3049 39 9 = I3047 30 9 ∧ fr (fun c _ => 39 ≤ c ∧ c ≤ 39 + 8) I3047 I3049) → ((86 = 86 ∧ mj_isk (mk (mj_ui I3049 80 2 (0 : Int32)) J)) ∧ (∀ I3051 : Nat → Nat → Int32, (fgP I3051 ∧ fr fgF (mj_ui I3049 80 2 (0 : Int32)) I3051) → (Φ (some (.int (I3051 39 8))) (mk (mj_ui (mj_ui I3051 0 16 (0 : Int32)) 1 1 (0 : Int32)) J)))))))))) else (Φ (some (.int (-1 : Int32))) (mk I3045 J)))))))))) :
    mj_Met Ω l false mX11_takeWater d 0 0 [.ref 0] (mk I J) Φ := mj_entry (by decide) rfl (fun h => (by cases h)) (Nat.le_of_ble_eq_true rfl) (mj_blk (μ := mX11_takeWater) (P := pX11_takeWater) (cut := cutX11_takeWater) (cs := csX11_takeWater) dX11_takeWater csX11_takeWater_ok hd 42 0 _ h)
def tX11_takeWater : mj_PT := fun as M Φ => match as with
  | [.ref this] => ((this = 0 ∧ mj_isk M) ∧ (∃ t : Nat, (∃ τ : Nat → Int32, ((TC M.2.2.1 t τ) ∧ (∀ I1 : Nat → Nat → Int32, ((∀ e, wtP t τ = .error e → fr wFr M.2.2.1 I1) ∧ ∀ s, wtP t τ = .ok s → tkW s M.2.2.1 I1) → Φ (some (.int (twR (wtP t τ)))) (M.1, M.2.1, I1, M.2.2.2))))))
  | _ => False
set_option maxHeartbeats 8000000 in
theorem mnX11_takeWater {Ω : mj_Om} {l : Launch} {d : Nat} {Φ : Option Value → mj_M → Prop} (hd : 10 ≤ d) (t : Nat) (τ : Nat → Int32) (I : Nat → Nat → Int32) (J : Nat → Nat → Int64) (hp : TC I t τ) (h : ∀ I1 : Nat → Nat → Int32, ((∀ e, wtP t τ = .error e → fr wFr I I1) ∧ ∀ s, wtP t τ = .ok s → tkW s I I1) → Φ (some (.int (twR (wtP t τ)))) (mk I1 J)) : mj_Met Ω l false mX11_takeWater d 0 0 [.ref 0] (mk I J) Φ := by
  refine inX11_takeWater hd I J ?_
  have ht := hp.1.1
  refine ⟨⟨by trivial, mj_isk_mk _ _⟩, t, τ, hp, fun A hA => ?_⟩
  obtain ⟨a1, a2⟩ := hA
  cases hr : wtP t τ with
  | error e =>
    have e3 : e ≤ 300 := by have := wt_ok.1 e hr; omega
    rw [if_neg (show ¬ faR (Except.error e : Except Nat WS) = -1 from nI_n1 e3)]
    have := h A ⟨fun _ _ => a1, fun s hs => by rw [hr] at hs; cases hs⟩
    rw [hr] at this
    exact this
  | ok s =>
    rw [if_pos (show faR (Except.ok s : Except Nat WS) = -1 from rfl)]
    obtain ⟨wf, wr⟩ := wt_ok.2 s hr
    obtain ⟨c1, c2, c3, c4, c5⟩ := a2 s hr
    have hn8 := wr.2.1
    generalize hB : mj_uc A 27 (va_cpy (A 14) (A 27) 0 0 7) = B
    have b27 : ∀ j, j < 7 → B 27 j = s.2.1 j := fun j hj => by
      rw [← hB, mj_uc_self]
      unfold va_cpy
      rw [if_pos ⟨Nat.zero_le _, by omega⟩, Nat.sub_zero, Nat.zero_add]
      exact c2 wf.1 j hj
    have bF : ∀ c k, ¬ c = 27 → B c k = A c k := fun c k w => by rw [← hB, mj_uc_ne w]
    have n15 : nF B 15 = s.2.2.1 := by unfold nF; rw [bF 15 8 (by decide), c3, jn_cl (by omega)]
    have ok15 : okF B 15 := ⟨by rw [n15, bF 15 8 (by decide)]; exact c3, by rw [n15]; exact hn8⟩
    have v15 : ∀ b, b < s.2.2.1 → ∀ k, k < 8 → VF B 15 k b = cfB (s.2.2.2 b) k := fun b hb k hk => by
      rw [VF_at k (by rw [n15]; exact hb) hk, bF _ _ (by omega)]
      exact c5 b hb k hk
    refine ⟨⟨by unfold isFG; omega, mj_isk_mk _ _⟩, ok15, fun C hC => ?_⟩
    obtain ⟨d1, d2, d3, d4, d5⟩ := hC
    refine ⟨⟨by unfold isFG; omega, mj_isk_mk _ _⟩, d1, fun D hD => ?_⟩
    obtain ⟨e1, e2, e3, e4, e5⟩ := hD
    refine ⟨⟨by trivial, mj_isk_mk _ _⟩, fun E hE => ?_⟩
    obtain ⟨f1, f2⟩ := hE
    obtain ⟨nE, VE, oE, sE⟩ := FF_fr (I := D) (I1 := E) (f := 39) (fun c k h1 h2 => by rw [f2 c k (by unfold fgF; omega), ui_c (by omega)])
    have g8 : E 39 8 = nI s.2.2.1 := by rw [(oE e1).1, nE, e2, d2, n15]
    rw [g8]
    generalize hZ : mj_ui (mj_ui E 0 16 0) 1 1 0 = Z
    have zF : ∀ c k, ¬ (c = 0 ∧ k = 16) → ¬ (c = 1 ∧ k = 1) → Z c k = E c k := fun c k w1 w2 => by
      rw [← hZ]
      by_cases z : c = 1
      · rw [ui_k (fun zz => w2 ⟨z, zz⟩)]; rw [ui_c (by omega)]
      · rw [ui_c z]
        by_cases z : c = 0
        · exact ui_k (fun zz => w1 ⟨z, zz⟩)
        · exact ui_c z
    have zE : ∀ c k, 2 ≤ c → Z c k = E c k := fun c k hc => zF c k (by omega) (by omega)
    have zD : ∀ c k, 2 ≤ c → ¬ fgF c k → ¬ (c = 80 ∧ k = 2) → Z c k = D c k := fun c k hc w1 w2 => by
      rw [zE c k hc, f2 c k w1]
      by_cases z : c = 80
      · exact ui_k (fun zz => w2 ⟨z, zz⟩)
      · exact ui_c z
    have zC : ∀ c k, 2 ≤ c → ¬ fgF c k → ¬ (c = 80 ∧ k = 2) → ¬ (39 ≤ c ∧ c ≤ 47) → Z c k = C c k := fun c k hc w1 w2 w3 => by rw [zD c k hc w1 w2]; exact e5 c k (by (try dsimp only); omega)
    obtain ⟨n9, V9, o9, s9⟩ := FF_fr (I := D) (I1 := Z) (f := 39) (fun c k h1 h2 => zD c k (by omega) (by unfold fgF; omega) (by omega))
    obtain ⟨n3, V3, o3, s3⟩ := FF_fr (I := C) (I1 := Z) (f := 30) (fun c k h1 h2 => zC c k (by omega) (by unfold fgF; omega) (by omega) (by omega))
    have := h Z ⟨fun e he => by rw [hr] at he; (cases he), fun s' hs' => by
      rw [hr] at hs'
      cases hs'
      refine ⟨fun j hj => ?_, o3 d1, by rw [n3, d2, n15], fun b hb k hk => by rw [V3, d3]; exact v15 b hb k hk, by rw [s3, d4, bF 15 9 (by decide)]; exact c4, o9 e1, by rw [n9, e2, d2, n15], by rw [V9, V3, e3], by rw [s9, e4, d4, bF 15 9 (by decide)]; exact c4, ?_, ?_, ?_, ?_, fun c k w => ?_⟩
      · rw [zC 27 j (by decide) (by unfold fgF; omega) (by omega) (by omega), d5 27 j (by (try dsimp only); omega)]; exact b27 j hj
      · rw [zE 80 2 (by decide), f2 80 2 (by unfold fgF; omega), ui_s]
      · exact ⟨by rw [zE 86 4 (by decide)]; exact f1.1, by rw [zE 86 5 (by decide)]; exact f1.2.1, fun i hi => by rw [zE 87 i (by decide), zE 88 i (by decide), zE 89 i (by decide), zE 90 i (by decide)]; exact f1.2.2 i hi⟩
      · rw [← hZ, ui_c (by decide), ui_s]
      · rw [← hZ, ui_s]
      · unfold tkF at w
        by_cases z2 : 2 ≤ c
        · rw [zC c k z2 (fun z => w (Or.inr (Or.inr (Or.inr (Or.inr (Or.inl z)))))) (by omega) (by omega), d5 c k (by (try dsimp only); omega), bF c k (by omega)]
          exact a1 c k (fun z => w (Or.inl z))
        · rw [zF c k (by omega) (by omega), f2 c k (by unfold fgF; omega), ui_c (by omega), e5 c k (by (try dsimp only); omega), d5 c k (by (try dsimp only); omega), bF c k (by omega)]
          exact a1 c k (fun z => w (Or.inl z))⟩
    rw [hr] at this
    exact this
theorem sdX11_takeWater : mj_Sd mX11_takeWater 10 tX11_takeWater := by
  intro Ω l d hd as M Φ h
  unfold tX11_takeWater at h
  split at h
  · rename_i z_this
    obtain ⟨⟨rfl, hM⟩, t, τ, hp, h⟩ := h
    rw [mj_isk_of hM]
    exact mnX11_takeWater hd t τ _ _ hp (by
      rw [mj_isk_of hM] at h
      exact h)
  · exact h.elim
/-- the reference has taken what it read -/
def tkFM (c k : Nat) : Prop := c = 104 ∨ c = 105 ∨ (c = 106 ∧ k < 49) ∨ (c = 91 ∧ (k = 22 ∨ k = 40 ∨ k = 42 ∨ k = 31 ∨ k = 44))
def tkM (I I1 : Nat → Nat → Int32) : Prop := I1 91 22 = I 91 19 ∧ (∀ j, j < 7 → I1 104 j = I 102 j) ∧ (∀ k, k < 48 → I1 105 k = I 103 k) ∧ (∀ b j, b < nM I1 → j < 6 → I1 106 (6 * b + j) = bgV I1 b j) ∧ I1 106 48 = 0 ∧ I1 91 40 = 0 ∧ I1 91 42 = 0 ∧ I1 91 31 = 0 ∧ I1 91 44 = 0 ∧ fr tkFM I I1
def csX12_takeWater : List (Nat × Nat × Nat × mj_PT) := [(258, 0, 1, mj_rcv 12 tX12_begin)]
theorem csX12_takeWater_ok : mj_Cs mX12_takeWater 3 csX12_takeWater := (mj_CsV (D' := 2) (ci := 12) (q := (RX12, TX12, 45)) sdX12_begin (Nat.le_of_ble_eq_true rfl) fX12_begin rfl rfl iX12_begin vX12_begin (by decide +kernel) l12_258 mj_Cs0)
def cutX12_takeWater : List (Nat × List Bool) := [(10, [true, true]), (36, [true, true])]
set_option maxRecDepth 100000 in
set_option maxHeartbeats 4000000 in
theorem inX12_takeWater {Ω : mj_Om} {l : Launch} {d : Nat} {Φ : Option Value → mj_M → Prop} (hd : 3 ≤ d) (I : Nat → Nat → Int32) (J : Nat → Nat → Int64)
    (h : ((mj_G Ω l false mX12_takeWater d 0 0 Φ 0 0 10 ([some (.ref 91), some (.int (0 : Int32))], [], (mk (mj_ui I 91 22 (I 91 19)) J))))) :
    mj_Met Ω l false mX12_takeWater d 0 0 [.ref 91] (mk I J) Φ := mj_entry (by decide) rfl (fun h => (by cases h)) (Nat.le_of_ble_eq_true rfl) (mj_blk (μ := mX12_takeWater) (P := pX12_takeWater) (cut := cutX12_takeWater) (cs := csX12_takeWater) dX12_takeWater csX12_takeWater_ok hd 52 0 _ h)
set_option maxRecDepth 100000 in
set_option maxHeartbeats 4000000 in
theorem bX12_takeWater_10 {Ω : mj_Om} {l : Launch} {d : Nat} {Φ : Option Value → mj_M → Prop} (hd : 3 ≤ d) (x1 : Int32) (I : Nat → Nat → Int32) (J : Nat → Nat → Int64)
    (h : ((if x1 < (7 : Int32) then (mj_gd (mj_inB x1 7) (mj_gd (mj_inB x1 7) (mj_G Ω l false mX12_takeWater d 0 0 Φ 0 0 10 ([some (.ref 91), some (.int (x1 + (1 : Int32)))], [], (mk (mj_ui I 104 (x1).toNatClampNeg (I 102 (x1).toNatClampNeg)) J))))) else (mj_G Ω l false mX12_takeWater d 0 0 Φ 0 0 36 ([some (.ref 91), some (.int (0 : Int32))], [], (mk I J)))))) :
    mj_G Ω l false mX12_takeWater d 0 0 Φ 0 0 10 ([some (.ref 91), some (.int x1)], [], mk I J) := mj_blk (μ := mX12_takeWater) (P := pX12_takeWater) (cut := cutX12_takeWater) (cs := csX12_takeWater) dX12_takeWater csX12_takeWater_ok hd 52 10 _ h
set_option maxRecDepth 100000 in
set_option maxHeartbeats 4000000 in
theorem bX12_takeWater_36 {Ω : mj_Om} {l : Launch} {d : Nat} {Φ : Option Value → mj_M → Prop} (hd : 3 ≤ d) (x1 : Int32) (I : Nat → Nat → Int32) (J : Nat → Nat → Int64)
    (h : ((if x1 < (48 : Int32) then (mj_gd (mj_inB x1 48) (mj_gd (mj_inB x1 48) (mj_G Ω l false mX12_takeWater d 0 0 Φ 0 0 36 ([some (.ref 91), some (.int (x1 + (1 : Int32)))], [], (mk (mj_ui I 105 (x1).toNatClampNeg (I 103 (x1).toNatClampNeg)) J))))) else ((91 = 91 ∧ mj_isk (mk I J)) ∧ ((okM I) ∧ (∀ I3055 : Nat → Nat → Int32, ((∀ b j, b < nM I → j < 6 → I3055 106 (6 * b + j) = bgV I b j) ∧ I3055 106 48 = 0 ∧ fr (fun c k => c = 106 ∧ k < 49) I I3055) → (Φ (some (.int (I3055 91 22))) (mk (mj_ui (mj_ui (mj_ui (mj_ui I3055 91 40 (0 : Int32)) 91 42 (0 : Int32)) 91 31 (0 : Int32)) 91 44 (0 : Int32)) J)))))))) :
    mj_G Ω l false mX12_takeWater d 0 0 Φ 0 0 36 ([some (.ref 91), some (.int x1)], [], mk I J) := mj_blk (μ := mX12_takeWater) (P := pX12_takeWater) (cut := cutX12_takeWater) (cs := csX12_takeWater) dX12_takeWater csX12_takeWater_ok hd 52 36 _ h
def tX12_takeWater : mj_PT := fun as M Φ => match as with
  | [.ref this] => ((this = 91 ∧ mj_isk M) ∧ (∃ n : Nat, ((M.2.2.1 91 19 = nI n ∧ n ≤ 8) ∧ (∀ I1 : Nat → Nat → Int32, (tkM M.2.2.1 I1) → Φ (some (.int (nI n))) (M.1, M.2.1, I1, M.2.2.2)))))
  | _ => False
set_option maxHeartbeats 8000000 in
theorem mnX12_takeWater {Ω : mj_Om} {l : Launch} {d : Nat} {Φ : Option Value → mj_M → Prop} (hd : 3 ≤ d) (n : Nat) (I : Nat → Nat → Int32) (J : Nat → Nat → Int64) (hp : I 91 19 = nI n ∧ n ≤ 8) (h : ∀ I1 : Nat → Nat → Int32, (tkM I I1) → Φ (some (.int (nI n))) (mk I1 J)) : mj_Met Ω l false mX12_takeWater d 0 0 [.ref 91] (mk I J) Φ := by
  refine inX12_takeWater hd I J ?_
  obtain ⟨h19, hn⟩ := hp
  rw [h19]
  have A0 : fr (fun c k => c = 91 ∧ k = 22) I (mj_ui I 91 22 (nI n)) := fr_ui fr_rf ⟨rfl, rfl⟩
  have A22 : (mj_ui I 91 22 (nI n)) 91 22 = nI n := ui_s
  generalize mj_ui I 91 22 (nI n) = A at A0 A22 ⊢
  have k36 : ∀ B : Nat → Nat → Int32, (∀ j, j < 7 → B 104 j = I 102 j) → B 91 22 = nI n → fr (fun c k => c = 104 ∨ (c = 91 ∧ k = 22)) I B → mj_G Ω l false mX12_takeWater d 0 0 Φ 0 0 36 ([some (.ref 91), some (.int 0)], [], mk B J) := by
    intro B b4 b22 bF
    refine lp_inv (σ := Nat → Nat → Int32) (n := 48) (G := fun i C => mj_G Ω l false mX12_takeWater d 0 0 Φ 0 0 36 ([some (.ref 91), some (.int (nI i))], [], mk C J)) (fun i C => (∀ j, j < i → C 105 j = I 103 j) ∧ fr (fun c _ => c = 105) B C) (fun i C hi hI hk => ?_) (fun C hI => ?_) 48 0 B (by omega) ⟨fun j hj => absurd hj (Nat.not_lt_zero j), fr_rf⟩
    · refine bX12_takeWater_36 hd (nI i) C J ?_
      rw [if_pos (show nI i < 48 from nlt (a := i) (b := 48) hi (by omega))]
      simp (disch := omega) only [jn_in, jn_cl, gd_dec, jn_succ]
      refine hk _ ⟨fun j hj => ?_, fr_ui hI.2 rfl⟩
      by_cases z : j = i
      · rw [z, ui_s, hI.2 103 i (by (try dsimp only); omega), bF 103 i (by (try dsimp only); omega)]
      · rw [ui_k z]; exact hI.1 j (by omega)
    · refine bX12_takeWater_36 hd (nI 48) C J ?_
      rw [if_neg (by decide)]
      have c22 : C 91 22 = nI n := by rw [hI.2 91 22 (by (try dsimp only); omega)]; exact b22
      have nC : nM C = n := by unfold nM; rw [c22, jn_cl (by omega)]
      refine ⟨⟨by trivial, mj_isk_mk _ _⟩, ⟨by rw [nC]; exact c22, by rw [nC]; exact hn⟩, fun D hD => ?_⟩
      obtain ⟨d1, d2, d3⟩ := hD
      rw [d3 91 22 (by (try dsimp only); omega), c22]
      generalize hZ : mj_ui (mj_ui (mj_ui (mj_ui D 91 40 0) 91 42 0) 91 31 0) 91 44 0 = Z
      have zD : ∀ c k, ¬ (c = 91 ∧ (k = 40 ∨ k = 42 ∨ k = 31 ∨ k = 44)) → Z c k = D c k := by
        rw [← hZ]
        exact fr_ui (S := fun c k => c = 91 ∧ (k = 40 ∨ k = 42 ∨ k = 31 ∨ k = 44)) (fr_ui (fr_ui (fr_ui fr_rf ⟨rfl, by omega⟩) ⟨rfl, by omega⟩) ⟨rfl, by omega⟩) ⟨rfl, by omega⟩
      have z5 : ∀ k, Z 105 k = C 105 k := fun k => by rw [zD 105 k (by omega)]; exact d3 105 k (by (try dsimp only); omega)
      have z22 : Z 91 22 = nI n := by rw [zD 91 22 (by omega), d3 91 22 (by (try dsimp only); omega)]; exact c22
      have nZ : nM Z = n := by unfold nM; rw [z22, jn_cl (by omega)]
      refine h Z ⟨by rw [z22, h19], fun j hj => ?_, fun k hk => by rw [z5]; exact hI.1 k hk, fun b j hb hj => ?_, by rw [zD 106 48 (by omega)]; exact d2, ?_, ?_, ?_, ?_, fun c k w => ?_⟩
      · rw [zD 104 j (by omega), d3 104 j (by (try dsimp only); omega), hI.2 104 j (by (try dsimp only); omega)]; exact b4 j hj
      · rw [nZ] at hb
        rw [zD 106 _ (by omega), d1 b j (by rw [nC]; exact hb) hj]
        unfold bgV
        simp only [z5]
      · rw [← hZ, ui_k (by decide), ui_k (by decide), ui_k (by decide), ui_s]
      · rw [← hZ, ui_k (by decide), ui_k (by decide), ui_s]
      · rw [← hZ, ui_k (by decide), ui_s]
      · rw [← hZ, ui_s]
      · unfold tkFM at w
        rw [zD c k (by omega), d3 c k (by (try dsimp only); omega), hI.2 c k (by (try dsimp only); omega)]; exact bF c k (by (try dsimp only); omega)
  refine lp_inv (σ := Nat → Nat → Int32) (n := 7) (G := fun i B => mj_G Ω l false mX12_takeWater d 0 0 Φ 0 0 10 ([some (.ref 91), some (.int (nI i))], [], mk B J)) (fun i B => (∀ j, j < i → B 104 j = I 102 j) ∧ fr (fun c _ => c = 104) A B) (fun i B hi hI hk => ?_) (fun B hI => ?_) 7 0 A (by omega) ⟨fun j hj => absurd hj (Nat.not_lt_zero j), fr_rf⟩
  · refine bX12_takeWater_10 hd (nI i) B J ?_
    rw [if_pos (show nI i < 7 from nlt (a := i) (b := 7) hi (by omega))]
    simp (disch := omega) only [jn_in, jn_cl, gd_dec, jn_succ]
    refine hk _ ⟨fun j hj => ?_, fr_ui hI.2 rfl⟩
    by_cases z : j = i
    · rw [z, ui_s, hI.2 102 i (by (try dsimp only); omega), A0 102 i (by (try dsimp only); omega)]
    · rw [ui_k z]; exact hI.1 j (by omega)
  · refine bX12_takeWater_10 hd (nI 7) B J ?_
    rw [if_neg (by decide)]
    refine k36 B hI.1 (by rw [hI.2 91 22 (by (try dsimp only); omega)]; exact A22) (fun c k w => ?_)
    dsimp only at w
    rw [hI.2 c k (by (try dsimp only); omega)]; exact A0 c k (by (try dsimp only); omega)
theorem sdX12_takeWater : mj_Sd mX12_takeWater 3 tX12_takeWater := by
  intro Ω l d hd as M Φ h
  unfold tX12_takeWater at h
  split at h
  · rename_i z_this
    obtain ⟨⟨rfl, hM⟩, n, hp, h⟩ := h
    rw [mj_isk_of hM]
    exact mnX12_takeWater hd n _ _ hp (by
      rw [mj_isk_of hM] at h
      exact h)
  · exact h.elim
