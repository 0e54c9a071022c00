/-! ===== calls that look ahead: what they answer; the class (by program, wip/whole/p50.py) ===== -/
def okBN (n : Nat) (b : Int32) : Prop := 0 ≤ b ∧ b < nI n
theorem okB_of {n : Nat} {b : Int32} (h0 : ¬ b < 0) (h1 : b < nI n) (hn : n ≤ 8) : ∃ k, k < n ∧ b = nI k := by
  have e := jn_of (Int32.not_lt.mp h0)
  refine ⟨b.toNatClampNeg, ?_, e⟩
  rw [e, jn_lt (cl_lt _) (by omega)] at h1
  exact h1
theorem okBN_n {n k : Nat} (hk : k < n) (hn : n ≤ 8) : okBN n (nI k) := ⟨by rw [Int32.le_iff_toInt_le, jn_toInt (by omega), i_0]; omega, by rw [jn_lt (by omega) (by omega)]; exact hk⟩
theorem okBN_p {n : Nat} {b : Int32} (h : okBN n b) : 0 < n := by
  rcases Nat.eq_zero_or_pos n with q | q
  · exfalso
    have h1 := h.1
    have h2 := h.2
    rw [q] at h2
    rw [Int32.le_iff_toInt_le, i_0] at h1
    rw [Int32.lt_iff_toInt_lt, jn_toInt (by omega)] at h2
    omega
  · exact q
noncomputable def gunA (n : Nat) (C : Nat → Int32) (R : RF) (F : Vw) (s : Int32) : Vw := gunV n C R (C 5 - s).toNatClampNeg F s
noncomputable def atG (n : Nat) (C : Nat → Int32) (G : Vw) (b : Nat) (w : Int32) : Int32 := if w = 0 then G 0 b else if w = 1 then G 1 b else if w = 2 then G 2 b else if w = 3 then stat (C 6) G b else if w = 4 then score n C (C 6) G b else nI (place n C (C 6) G b)
noncomputable def aheadR (n : Nat) (C : Nat → Int32) (R : RF) (F : Vw) (s b w : Int32) : Int32 := cif (okBN n b ∧ 0 ≤ w ∧ ¬ 5 < w) (atG n C (gunA n C R F s) b.toNatClampNeg w) (-1000000)
noncomputable def sFrom (n : Nat) (C : Nat → Int32) (R : RF) (F : Vw) (s : Int32) (b : Nat) (x y : Int32) : Int32 := score n C (C 6) (gunA n C R (vup (vup F 0 b x) 1 b y) s) b
noncomputable def bstN (ok : Nat → Prop) (sc : Nat → Int32) : Nat → Option (Nat × Int32)
  | 0 => none
  | v + 1 => match bstN ok sc v with
    | none => cif (ok v) (some (v, sc v)) none
    | some q => cif (ok v ∧ q.2 < sc v) (some (v, sc v)) (some q)
def resB (q : Option (Nat × Int32)) (w : Int32) : Int32 := match q with
  | none => -1000000
  | some p => if w = 0 then nI p.1 else p.2
noncomputable def whereR (n : Nat) (C : Nat → Int32) (R : RF) (F : Vw) (s b w : Int32) : Int32 := cif (okBN n b ∧ (w = 0 ∨ w = 1)) (resB (bstN (fun v => nI v = F 0 b.toNatClampNeg ∨ ¬ held n F (nI v) (F 1 b.toNatClampNeg)) (fun v => sFrom n C R F s b.toNatClampNeg (nI v) (F 1 b.toNatClampNeg)) (C 0).toNatClampNeg) w) (-1000000)
noncomputable def nearR (n : Nat) (C : Nat → Int32) (R : RF) (F : Vw) (s b w : Int32) : Int32 := cif (okBN n b ∧ (w = 0 ∨ w = 1)) (resB (bstN (fun v => nI v = F 1 b.toNatClampNeg ∨ ¬ held n F (F 0 b.toNatClampNeg) (nI v)) (fun v => sFrom n C R F s b.toNatClampNeg (F 0 b.toNatClampNeg) (nI v)) 20) w) (-1000000)
noncomputable def rowR (n : Nat) (C : Nat → Int32) (R : RF) (F : Vw) (s b y : Int32) : Int32 := cif (okBN n b ∧ (¬ y < 1 ∧ ¬ 9 < y) ∧ ¬ held n F (F 0 b.toNatClampNeg) (F 1 b.toNatClampNeg + y)) (sFrom n C R F s b.toNatClampNeg (F 0 b.toNatClampNeg) (F 1 b.toNatClampNeg + y)) (-1000000)
/-- held for k seconds -/
noncomputable def hldV (n : Nat) (C : Nat → Int32) (R : RF) (b : Nat) (F : Vw) (s : Int32) : Nat → Vw
  | 0 => F
  | k + 1 => passH n C R b (hldV n C R b F s k) (s + nI k)
noncomputable def holdS (n : Nat) (C : Nat → Int32) (R : RF) (F : Vw) (s : Int32) (b k : Nat) : Int32 := score n C (C 6) (gunR n C R b ((C 5 - s).toNatClampNeg - k) (hldV n C R b F s k) (s + nI k)) b
noncomputable def holdR (n : Nat) (C : Nat → Int32) (R : RF) (F : Vw) (s b w : Int32) : Int32 := cif (okBN n b ∧ (w = 0 ∨ w = 1)) (resB (bstN (fun _ => True) (fun v => holdS n C R F s b.toNatClampNeg v) ((C 5 - s).toNatClampNeg + 1)) w) (-1000000)
/-- behind k seconds -/
noncomputable def aftV (n : Nat) (C : Nat → Int32) (R : RF) (F : Vw) (s : Int32) : Nat → Vw
  | 0 => F
  | k + 1 => passV n C R (aftV n C R F s k) (s + nI k)
noncomputable def fstN (p : Nat → Prop) : Nat → Nat → Int32
  | _, 0 => -1
  | k, m + 1 => cif (p k) (nI k) (fstN p (k + 1) m)
noncomputable def keepsR (n : Nat) (C : Nat → Int32) (R : RF) (F : Vw) (s b : Int32) : Int32 := cif (okBN n b) (fstN (fun k => lee n (aftV n C R F s k) b.toNatClampNeg) 0 ((C 5 - s).toNatClampNeg + 1)) (-1)
noncomputable def flagR (n : Nat) (C : Nat → Int32) (R : RF) (F : Vw) (s b : Int32) : Int32 := cif (okBN n b) (b2i (place n C 1 (gunA n C R F s) b.toNatClampNeg < place n C 0 (gunA n C R F s) b.toNatClampNeg)) (-1)
def qC (I : Nat → Nat → Int32) (m : Nat) (R : RF) : Prop := okF I 39 ∧ RuC I m R ∧ (0 < nF I 39 → FOk 19 (nF I 39) (lv7 (I 27)) (VF I 39) (I 39 9))
theorem FOk_u {u v : Int} {n : Nat} {C : Nat → Int32} {F : Vw} {s : Int32} (h : FOk u n C F s) (huv : u ≤ v) : FOk v n C F s := ⟨h.1, h.2.1, fun b hb => by have := h.2.2 b hb; exact ⟨this.1, ⟨this.2.1.1, by have := this.2.1.2; omega⟩, this.2.2⟩⟩
/-- trial boats as a copy of those of now -/
theorem tr48 {I A : Nat → Nat → Int32} {m : Nat} {R : RF} (hq : qC I m R) (hn : 0 < nF I 39) (hA : okF A 48 ∧ nF A 48 = nF I 39 ∧ VF A 48 = VF I 39 ∧ A 48 9 = I 39 9 ∧ fr (fun c _ => 48 ≤ c ∧ c ≤ 48 + 8) I A) : FC 40 A 26 48 ∧ RuC A m R ∧ lv7 (A (26 + 1)) = lv7 (I 27) := by
  obtain ⟨h1, h2, h3, h4, h5⟩ := hA
  have eC : lv7 (A (26 + 1)) = lv7 (I 27) := lv7_fr (fun k => h5 27 k (by (try dsimp only); omega))
  refine ⟨⟨h1, ?_⟩, RuC_fr hq.2.1 (fun c k q1 q2 => h5 c k (by (try dsimp only); omega)), eC⟩
  rw [h2, h3, h4, eC]
  exact FOk_u (hq.2.2 hn) (by decide)
def csX11_scoreFrom : List (Nat × Nat × Nat × mj_PT) := [(134, 0, 2, mj_rcv 3 tX3_copyFrom), (195, 0, 3, mj_rcv 1 tX1_scoreOf), (251, 0, 3, mj_rcv 4 tX4_passToGun)]
theorem csX11_scoreFrom_ok : mj_Cs mX11_scoreFrom 6 csX11_scoreFrom := (mj_CsV (D' := 1) (ci := 3) (q := (RX3, TX3, 10)) sdX3_copyFrom (Nat.le_of_ble_eq_true rfl) fX3_copyFrom rfl rfl iX3_copyFrom vX3_copyFrom (by decide +kernel) l11_134 (mj_CsV (D' := 3) (ci := 1) (q := (RX1, TX1, 1)) sdX1_scoreOf (Nat.le_of_ble_eq_true rfl) fX1_scoreOf rfl rfl iX1_scoreOf vX1_scoreOf (by decide +kernel) l11_195 (mj_CsV (D' := 5) (ci := 4) (q := (RX4, TX4, 4)) sdX4_passToGun (Nat.le_of_ble_eq_true rfl) fX4_passToGun rfl rfl iX4_passToGun vX4_passToGun (by decide +kernel) l11_251 mj_Cs0)))
def cutX11_scoreFrom : List (Nat × List Bool) := []
set_option maxRecDepth 100000 in
set_option maxHeartbeats 4000000 in
theorem inX11_scoreFrom {Ω : mj_Om} {l : Launch} {d : Nat} {Φ : Option Value → mj_M → Prop} (hd : 6 ≤ d) (b_ : Int32) (x : Int32) (y : Int32) (I : Nat → Nat → Int32) (J : Nat → Nat → Int64)
    (h : (((isFG 48 39 ∧ mj_isk (mk I J)) ∧ ((okF I 39) ∧ (∀ I350 : Nat → Nat → Int32, (okF I350 48 ∧ nF I350 48 = nF I 39 ∧ VF I350 48 = VF I 39 ∧ I350 48 9 = I 39 9 ∧ fr (fun c _ => 48 ≤ c ∧ c ≤ 48 + 8) I I350) → (mj_gd (mj_inB b_ 8) (mj_gd (mj_inB b_ 8) ((75 = 75 ∧ isCF 26 48 ∧ mj_isk (mk (mj_ui (mj_ui I350 49 (b_).toNatClampNeg x) 50 (b_).toNatClampNeg y) J)) ∧ (∃ u352 : Int, (∃ m353 : Nat, (∃ R354 : RF, ((u352 ≤ 1000 ∧ FC u352 (mj_ui (mj_ui I350 49 (b_).toNatClampNeg x) 50 (b_).toNatClampNeg y) 26 48 ∧ RuC (mj_ui (mj_ui I350 49 (b_).toNatClampNeg x) 50 (b_).toNatClampNeg y) m353 R354) ∧ (∀ I355 : Nat → Nat → Int32, (VF I355 48 = gunV (nF (mj_ui (mj_ui I350 49 (b_).toNatClampNeg x) 50 (b_).toNatClampNeg y) 48) (lv7 ((mj_ui (mj_ui I350 49 (b_).toNatClampNeg x) 50 (b_).toNatClampNeg y) (26 + 1))) R354 ((lv7 ((mj_ui (mj_ui I350 49 (b_).toNatClampNeg x) 50 (b_).toNatClampNeg y) (26 + 1))) 5 - ((mj_ui (mj_ui I350 49 (b_).toNatClampNeg x) 50 (b_).toNatClampNeg y) 48 9)).toNatClampNeg (VF (mj_ui (mj_ui I350 49 (b_).toNatClampNeg x) 50 (b_).toNatClampNeg y) 48) ((mj_ui (mj_ui I350 49 (b_).toNatClampNeg x) 50 (b_).toNatClampNeg y) 48 9) ∧ I355 48 9 = (lv7 ((mj_ui (mj_ui I350 49 (b_).toNatClampNeg x) 50 (b_).toNatClampNeg y) (26 + 1))) 5 ∧ fr (fun c k => (48 + 1 ≤ c ∧ c ≤ 48 + 8) ∨ (c = 48 ∧ k = 9) ∨ c = 10 ∨ (76 ≤ c ∧ c ≤ 78)) (mj_ui (mj_ui I350 49 (b_).toNatClampNeg x) 50 (b_).toNatClampNeg y) I355) → ((isCF 26 48 ∧ mj_isk (mk I355 J)) ∧ ((okF I355 48 ∧ isB (nF I355 48) b_ ∧ lineOk (lv7 (I355 (26 + 1)))) ∧ (Φ (some (.int (score (nF I355 48) (lv7 (I355 (26 + 1))) (I355 (26 + 1) 6) (VF I355 48) (b_).toNatClampNeg))) (mk I355 J))))))))))))))))) :
    mj_Met Ω l false mX11_scoreFrom d 0 0 [.ref 0, .int b_, .int x, .int y] (mk I J) Φ := mj_entry (by decide) rfl (fun h => (by cases h)) (Nat.le_of_ble_eq_true rfl) (mj_blk (μ := mX11_scoreFrom) (P := pX11_scoreFrom) (cut := cutX11_scoreFrom) (cs := csX11_scoreFrom) dX11_scoreFrom csX11_scoreFrom_ok hd 32 0 _ h)
def tX11_scoreFrom : mj_PT := fun as M Φ => match as with
  | [.ref this, .int b_, .int x, .int y] => ((this = 0 ∧ mj_isk M) ∧ (∃ b : Nat, b_ = nI b ∧ (∃ m : Nat, (∃ R : RF, ((qC M.2.2.1 m R ∧ b < nF M.2.2.1 39 ∧ FOk 40 (nF M.2.2.1 39) (lv7 (M.2.2.1 27)) (vup (vup (VF M.2.2.1 39) 0 b x) 1 b y) (M.2.2.1 39 9)) ∧ (∀ I1 : Nat → Nat → Int32, (fr Scr M.2.2.1 I1) → Φ (some (.int (sFrom (nF M.2.2.1 39) (lv7 (M.2.2.1 27)) R (VF M.2.2.1 39) (M.2.2.1 39 9) b x y))) (M.1, M.2.1, I1, M.2.2.2)))))))
  | _ => False
set_option maxHeartbeats 4000000 in
theorem mnX11_scoreFrom {Ω : mj_Om} {l : Launch} {d : Nat} {Φ : Option Value → mj_M → Prop} (hd : 6 ≤ d) (b : Nat) (x : Int32) (y : Int32) (m : Nat) (R : RF) (I : Nat → Nat → Int32) (J : Nat → Nat → Int64) (hp : qC I m R ∧ b < nF I 39 ∧ FOk 40 (nF I 39) (lv7 (I 27)) (vup (vup (VF I 39) 0 b x) 1 b y) (I 39 9)) (h : ∀ I1 : Nat → Nat → Int32, (fr Scr I I1) → Φ (some (.int (sFrom (nF I 39) (lv7 (I 27)) R (VF I 39) (I 39 9) b x y))) (mk I1 J)) : mj_Met Ω l false mX11_scoreFrom d 0 0 [.ref 0, .int (nI b), .int x, .int y] (mk I J) Φ := by
  refine inX11_scoreFrom hd (nI b) x y I J ?_
  obtain ⟨hq, hb, hFx⟩ := hp
  have hn := hq.1.2
  refine ⟨⟨by unfold isFG; omega, mj_isk_mk _ _⟩, hq.1, fun A hA => ?_⟩
  obtain ⟨hFC, hRA, eC⟩ := tr48 hq (by omega) hA
  obtain ⟨h1, h2, h3, h4, h5⟩ := hA
  simp (disch := omega) only [jn_in, jn_cl, gd_dec]
  have hB : fr (fun c _ => c = 49 ∨ c = 50) A (mj_ui (mj_ui A 49 b x) 50 b y) := fr_ui (fr_ui fr_rf (Or.inl rfl)) (Or.inr rfl)
  have hV : VF (mj_ui (mj_ui A 49 b x) 50 b y) 48 = vup (vup (VF I 39) 0 b x) 1 b y := by
    have e1 : nF (mj_ui A 49 b x) 48 = nF A 48 := nF_ui (by decide)
    rw [VFu_1 (f := 48) (by rw [e1]; omega), VFu_0 (f := 48) (by omega), h3]
  generalize mj_ui (mj_ui A 49 b x) 50 b y = B at hB hV ⊢
  have nB : nF B 48 = nF I 39 := by rw [(fr_n hB (f := 48) (by (try dsimp only); omega)).2]; exact h2
  have oB : okF B 48 := fr_okF hB (by (try dsimp only); omega) h1
  have CB : lv7 (B (26 + 1)) = lv7 (I 27) := by rw [lv7_fr (fun k => hB (26 + 1) k (by (try dsimp only); omega))]; exact eC
  have sB : B 48 9 = I 39 9 := by rw [hB 48 9 (by (try dsimp only); omega)]; exact h4
  refine ⟨⟨by trivial, by unfold isCF; omega, mj_isk_mk _ _⟩, 40, m, R, ⟨by decide, ⟨oB, by rw [nB, CB, hV, sB]; exact hFx⟩, RuC_fr hRA (fun c k q1 q2 => hB c k (by (try dsimp only); omega))⟩, fun D hD => ?_⟩
  obtain ⟨d1, d2, d3⟩ := hD
  have nD : nF D 48 = nF I 39 := by rw [(fr_n d3 (f := 48) (by (try dsimp only); omega)).2]; exact nB
  have CD : lv7 (D (26 + 1)) = lv7 (I 27) := by rw [lv7_fr (fun k => d3 (26 + 1) k (by (try dsimp only); omega))]; exact CB
  have e6 : D (26 + 1) 6 = lv7 (I 27) 6 := by rw [← CD, lv7_at (by decide)]
  rw [nB, CB, hV, sB] at d1
  refine ⟨⟨by unfold isCF; omega, mj_isk_mk _ _⟩, ⟨fr_okF d3 (by (try dsimp only); omega) oB, by rw [nD]; exact isB_nI hb hn, by rw [CD]; exact hFx.1⟩, ?_⟩
  try simp (disch := omega) only [jn_cl]
  rw [nD, CD, d1, e6]
  refine h D (fun c k w => ?_)
  rw [d3 c k (fun z => w (by (try dsimp only at z); unfold Scr; omega)), hB c k (fun z => w (by (try dsimp only at z); unfold Scr; omega)), h5 c k (fun z => w (by (try dsimp only at z); unfold Scr; omega))]
theorem sdX11_scoreFrom : mj_Sd mX11_scoreFrom 6 tX11_scoreFrom := by
  intro Ω l d hd as M Φ h
  unfold tX11_scoreFrom at h
  split at h
  · rename_i z_this b_ x y
    obtain ⟨⟨rfl, hM⟩, b, rfl, m, R, hp, h⟩ := h
    rw [mj_isk_of hM]
    exact mnX11_scoreFrom hd b x y m R _ _ hp (by
      rw [mj_isk_of hM] at h
      exact h)
  · exact h.elim
def csX11_ahead : List (Nat × Nat × Nat × mj_PT) := [(134, 0, 2, mj_rcv 3 tX3_copyFrom), (160, 0, 2, mj_rcv 11 tX11_isBoat), (191, 0, 3, mj_rcv 1 tX1_statusOf), (195, 0, 3, mj_rcv 1 tX1_scoreOf), (198, 0, 3, mj_rcv 1 tX1_placeOf), (251, 0, 3, mj_rcv 4 tX4_passToGun)]
theorem csX11_ahead_ok : mj_Cs mX11_ahead 6 csX11_ahead := (mj_CsV (D' := 1) (ci := 3) (q := (RX3, TX3, 10)) sdX3_copyFrom (Nat.le_of_ble_eq_true rfl) fX3_copyFrom rfl rfl iX3_copyFrom vX3_copyFrom (by decide +kernel) l11_134 (mj_CsV (D' := 1) (ci := 11) (q := (RX11, TX11, 18)) sdX11_isBoat (Nat.le_of_ble_eq_true rfl) fX11_isBoat rfl rfl iX11_isBoat vX11_isBoat (by decide +kernel) l11_160 (mj_CsV (D' := 1) (ci := 1) (q := (RX1, TX1, 1)) sdX1_statusOf (Nat.le_of_ble_eq_true rfl) fX1_statusOf rfl rfl iX1_statusOf vX1_statusOf (by decide +kernel) l11_191 (mj_CsV (D' := 3) (ci := 1) (q := (RX1, TX1, 1)) sdX1_scoreOf (Nat.le_of_ble_eq_true rfl) fX1_scoreOf rfl rfl iX1_scoreOf vX1_scoreOf (by decide +kernel) l11_195 (mj_CsV (D' := 4) (ci := 1) (q := (RX1, TX1, 1)) sdX1_placeOf (Nat.le_of_ble_eq_true rfl) fX1_placeOf rfl rfl iX1_placeOf vX1_placeOf (by decide +kernel) l11_198 (mj_CsV (D' := 5) (ci := 4) (q := (RX4, TX4, 4)) sdX4_passToGun (Nat.le_of_ble_eq_true rfl) fX4_passToGun rfl rfl iX4_passToGun vX4_passToGun (by decide +kernel) l11_251 mj_Cs0))))))
def cutX11_ahead : List (Nat × List Bool) := []
def pX11_ahead_0 : List (Nat × Instr × Nat) := [(0, .aload_n 0, 1), (1, .iload_n 1, 1), (2, .invokevirtual 160, 3), (5, .ifCond .eq 12, 3), (8, .iload_n 2, 1), (9, .ifCond .lt 8, 3), (12, .iload_n 2, 1), (13, .iconst 5, 1), (14, .if_icmp .le 6, 3), (17, .ldc 250, 2), (19, .ireturn, 1), (20, .aload_n 0, 1), (21, .getfield 59, 3), (24, .aload_n 0, 1), (25, .getfield 56, 3), (28, .invokevirtual 134, 3), (31, .aload_n 0, 1), (32, .getfield 73, 3), (35, .aload_n 0, 1), (36, .getfield 42, 3), (39, .aload_n 0, 1), (40, .getfield 59, 3), (43, .invokevirtual 251, 3), (46, .iload_n 2, 1), (47, .tableswitch 89 0 4 #[33, 43, 53, 63, 76], 33), (80, .aload_n 0, 1), (81, .getfield 59, 3), (84, .getfield 167, 3), (87, .iload_n 1, 1), (88, .iaload, 1), (89, .ireturn, 1), (90, .aload_n 0, 1), (91, .getfield 59, 3), (94, .getfield 170, 3), (97, .iload_n 1, 1), (98, .iaload, 1), (99, .ireturn, 1), (100, .aload_n 0, 1), (101, .getfield 59, 3), (104, .getfield 173, 3), (107, .iload_n 1, 1), (108, .iaload, 1), (109, .ireturn, 1), (110, .aload_n 0, 1), (111, .getfield 42, 3), (114, .aload_n 0, 1), (115, .getfield 59, 3), (118, .iload_n 1, 1), (119, .invokevirtual 191, 3), (122, .ireturn, 1), (123, .aload_n 0, 1), (124, .getfield 42, 3), (127, .aload_n 0, 1), (128, .getfield 59, 3), (131, .iload_n 1, 1), (132, .invokevirtual 195, 3), (135, .ireturn, 1), (136, .aload_n 0, 1), (137, .getfield 42, 3), (140, .aload_n 0, 1), (141, .getfield 59, 3), (144, .iload_n 1, 1), (145, .invokevirtual 198, 3), (148, .ireturn, 1)]
set_option maxRecDepth 100000 in
theorem dX11_ahead_0 : mj_pd cX11_ahead pX11_ahead_0 := mj_pdB (by decide +kernel)
set_option maxRecDepth 100000 in
set_option maxHeartbeats 4000000 in
theorem inX11_ahead {Ω : mj_Om} {l : Launch} {d : Nat} {Φ : Option Value → mj_M → Prop} (hd : 6 ≤ d) (b : Int32) (w : Int32) (I : Nat → Nat → Int32) (J : Nat → Nat → Int64)
    (h : ((if b < (0 : Int32) then (Φ (some (.int (-1000000 : Int32))) (mk I J)) else (if b < (I 39 8) then (if w < (0 : Int32) then (Φ (some (.int (-1000000 : Int32))) (mk I J)) else (if (5 : Int32) < w then (Φ (some (.int (-1000000 : Int32))) (mk I J)) else ((isFG 48 39 ∧ mj_isk (mk I J)) ∧ ((okF I 39) ∧ (∀ I367 : Nat → Nat → Int32, (okF I367 48 ∧ nF I367 48 = nF I 39 ∧ VF I367 48 = VF I 39 ∧ I367 48 9 = I 39 9 ∧ fr (fun c _ => 48 ≤ c ∧ c ≤ 48 + 8) I I367) → ((75 = 75 ∧ isCF 26 48 ∧ mj_isk (mk I367 J)) ∧ (∃ u369 : Int, (∃ m370 : Nat, (∃ R371 : RF, ((u369 ≤ 1000 ∧ FC u369 I367 26 48 ∧ RuC I367 m370 R371) ∧ (∀ I372 : Nat → Nat → Int32, (VF I372 48 = gunV (nF I367 48) (lv7 (I367 (26 + 1))) R371 ((lv7 (I367 (26 + 1))) 5 - (I367 48 9)).toNatClampNeg (VF I367 48) (I367 48 9) ∧ I372 48 9 = (lv7 (I367 (26 + 1))) 5 ∧ fr (fun c k => (48 + 1 ≤ c ∧ c ≤ 48 + 8) ∨ (c = 48 ∧ k = 9) ∨ c = 10 ∨ (76 ≤ c ∧ c ≤ 78)) I367 I372) → (if w = (0 : Int32) then (mj_gd (mj_inB b 8) (Φ (some (.int (I372 49 (b).toNatClampNeg))) (mk I372 J))) else (if w = (1 : Int32) then (mj_gd (mj_inB b 8) (Φ (some (.int (I372 50 (b).toNatClampNeg))) (mk I372 J))) else (if w = (2 : Int32) then (mj_gd (mj_inB b 8) (Φ (some (.int (I372 51 (b).toNatClampNeg))) (mk I372 J))) else (if w = (3 : Int32) then ((isCF 26 48 ∧ mj_isk (mk I372 J)) ∧ ((nF I372 48 ≤ 8 ∧ isB (nF I372 48) b) ∧ (Φ (some (.int (stat (I372 (26 + 1) 6) (VF I372 48) (b).toNatClampNeg))) (mk I372 J)))) else (if w = (4 : Int32) then ((isCF 26 48 ∧ mj_isk (mk I372 J)) ∧ ((okF I372 48 ∧ isB (nF I372 48) b ∧ lineOk (lv7 (I372 (26 + 1)))) ∧ (Φ (some (.int (score (nF I372 48) (lv7 (I372 (26 + 1))) (I372 (26 + 1) 6) (VF I372 48) (b).toNatClampNeg))) (mk I372 J)))) else ((isCF 26 48 ∧ mj_isk (mk I372 J)) ∧ (∃ b374 : Nat, b = nI b374 ∧ ((okF I372 48 ∧ b374 < nF I372 48 ∧ lineOk (lv7 (I372 (26 + 1)))) ∧ (Φ (some (.int (nI (place (nF I372 48) (lv7 (I372 (26 + 1))) (I372 (26 + 1) 6) (VF I372 48) b374)))) (mk I372 J))))))))))))))))))))) else (Φ (some (.int (-1000000 : Int32))) (mk I J)))))) :
    mj_Met Ω l false mX11_ahead d 0 0 [.ref 0, .int b, .int w] (mk I J) Φ := mj_entry (by decide) rfl (fun h => (by cases h)) (Nat.le_of_ble_eq_true rfl) (mj_blk (μ := mX11_ahead) (P := pX11_ahead_0) (cut := cutX11_ahead) (cs := csX11_ahead) dX11_ahead_0 csX11_ahead_ok hd 65 0 _ h)
def tX11_ahead : mj_PT := fun as M Φ => match as with
  | [.ref this, .int b, .int w] => ((this = 0 ∧ mj_isk M) ∧ (∃ m : Nat, (∃ R : RF, ((qC M.2.2.1 m R) ∧ (∀ I1 : Nat → Nat → Int32, (fr Scr M.2.2.1 I1) → Φ (some (.int (aheadR (nF M.2.2.1 39) (lv7 (M.2.2.1 27)) R (VF M.2.2.1 39) (M.2.2.1 39 9) b w))) (M.1, M.2.1, I1, M.2.2.2))))))
  | _ => False
set_option maxHeartbeats 4000000 in
theorem mnX11_ahead {Ω : mj_Om} {l : Launch} {d : Nat} {Φ : Option Value → mj_M → Prop} (hd : 6 ≤ d) (b : Int32) (w : Int32) (m : Nat) (R : RF) (I : Nat → Nat → Int32) (J : Nat → Nat → Int64) (hp : qC I m R) (h : ∀ I1 : Nat → Nat → Int32, (fr Scr I I1) → Φ (some (.int (aheadR (nF I 39) (lv7 (I 27)) R (VF I 39) (I 39 9) b w))) (mk I1 J)) : mj_Met Ω l false mX11_ahead d 0 0 [.ref 0, .int b, .int w] (mk I J) Φ := by
  refine inX11_ahead hd b w I J ?_
  obtain ⟨⟨hc, hn⟩, hR, hFF⟩ := id hp
  have hH : ¬ (okBN (nF I 39) b ∧ 0 ≤ w ∧ ¬ 5 < w) → Φ (some (.int (-1000000))) (mk I J) := fun q => by
    have := h I fr_rf
    unfold aheadR at this
    rwa [cif_f q] at this
  by_cases hb0 : b < 0
  · rw [if_pos hb0]; exact hH (fun w => absurd hb0 (Int32.not_lt.mpr w.1.1))
  rw [if_neg hb0, hc]
  by_cases hb1 : b < nI (nF I 39)
  case neg => rw [if_neg hb1]; exact hH (fun w => hb1 w.1.2)
  rw [if_pos hb1]
  obtain ⟨k, hk, rfl⟩ := okB_of hb0 hb1 hn
  have hF := hFF (by omega)
  have hok := okBN_n hk hn
  by_cases w0 : w < 0
  · rw [if_pos w0]; exact hH (fun z => absurd w0 (Int32.not_lt.mpr z.2.1))
  rw [if_neg w0]
  by_cases w1 : 5 < w
  · rw [if_pos w1]; exact hH (fun z => z.2.2 w1)
  rw [if_neg w1]
  refine ⟨⟨by unfold isFG; omega, mj_isk_mk _ _⟩, ⟨hc, hn⟩, fun A hA => ?_⟩
  obtain ⟨hFC, hRA, eC⟩ := tr48 hp (by omega) hA
  obtain ⟨h1, h2, h3, h4, h5⟩ := hA
  refine ⟨⟨by trivial, by unfold isCF; omega, mj_isk_mk _ _⟩, 40, m, R, ⟨by decide, hFC, hRA⟩, fun D hD => ?_⟩
  obtain ⟨d1, d2, d3⟩ := hD
  have nD : nF D 48 = nF I 39 := by rw [(fr_n d3 (f := 48) (by (try dsimp only); omega)).2]; exact h2
  have oD : okF D 48 := fr_okF d3 (by (try dsimp only); omega) h1
  have CD : lv7 (D (26 + 1)) = lv7 (I 27) := by rw [lv7_fr (fun k => d3 (26 + 1) k (by (try dsimp only); omega))]; exact eC
  have e6 : D (26 + 1) 6 = lv7 (I 27) 6 := by rw [← CD, lv7_at (by decide)]
  rw [h2, eC, h3, h4] at d1
  have hfr : fr Scr I D := fun c k w => by rw [d3 c k (fun z => w (by (try dsimp only at z); unfold Scr; omega)), h5 c k (fun z => w (by (try dsimp only at z); unfold Scr; omega))]
  have h' := h D hfr
  unfold aheadR at h'
  rw [cif_t ⟨hok, Int32.not_lt.mp w0, w1⟩, jn_cl (by omega)] at h'
  unfold atG gunA at h'
  rw [← d1] at h'
  have hl : lineOk (lv7 (D (26 + 1))) := by rw [CD]; exact hF.1
  have v0 := VF_0 (I := D) (f := 48) (b := k) (by omega)
  have v1 := VF_1 (I := D) (f := 48) (b := k) (by omega)
  have v2 := VF_2 (I := D) (f := 48) (b := k) (by omega)
  simp (disch := omega) only [jn_in, jn_cl, gd_dec]
  by_cases q0 : w = 0
  · rw [if_pos q0] at h' ⊢; rw [v0] at h'; exact h'
  rw [if_neg q0] at h' ⊢
  by_cases q1 : w = 1
  · rw [if_pos q1] at h' ⊢; rw [v1] at h'; (try simp (disch := omega) only [jn_in, jn_cl, gd_dec]); exact h'
  rw [if_neg q1] at h' ⊢
  by_cases q2 : w = 2
  · rw [if_pos q2] at h' ⊢; rw [v2] at h'; (try simp (disch := omega) only [jn_in, jn_cl, gd_dec]); exact h'
  rw [if_neg q2] at h' ⊢
  by_cases q3 : w = 3
  · rw [if_pos q3] at h' ⊢
    refine ⟨⟨by unfold isCF; omega, mj_isk_mk _ _⟩, ⟨oD.2, by rw [nD]; exact isB_nI hk hn⟩, ?_⟩
    try simp (disch := omega) only [jn_cl]
    rw [e6]; exact h'
  rw [if_neg q3] at h' ⊢
  by_cases q4 : w = 4
  · rw [if_pos q4] at h' ⊢
    refine ⟨⟨by unfold isCF; omega, mj_isk_mk _ _⟩, ⟨oD, by rw [nD]; exact isB_nI hk hn, hl⟩, ?_⟩
    try simp (disch := omega) only [jn_cl]
    rw [e6, nD, CD]; exact h'
  rw [if_neg q4] at h' ⊢
  refine ⟨⟨by unfold isCF; omega, mj_isk_mk _ _⟩, k, rfl, ⟨oD, by omega, hl⟩, ?_⟩
  rw [e6, nD, CD]; exact h'
theorem sdX11_ahead : mj_Sd mX11_ahead 6 tX11_ahead := by
  intro Ω l d hd as M Φ h
  unfold tX11_ahead at h
  split at h
  · rename_i z_this b w
    obtain ⟨⟨rfl, hM⟩, m, R, hp, h⟩ := h
    rw [mj_isk_of hM]
    exact mnX11_ahead hd b w m R _ _ hp (by
      rw [mj_isk_of hM] at h
      exact h)
  · exact h.elim
