/-! ===== calls that look ahead: the reference (by program, wip/whole/p53.py) ===== -/
theorem gunG_V {n : Nat} {C : Nat → Int32} {R : RF} : ∀ (l : Nat) (k : Int32) (F : Vw) (s : Int32), gunG n C R (-1) l k F s = gunV n C R l F s := by
  intro l
  induction l with
  | zero => intro k F s; rfl
  | succ l ih => intro k F s; rw [gunG, gunV, ih, passG_V]
theorem gunG_R {n b : Nat} {C : Nat → Int32} {R : RF} (hb : b < 100) : ∀ (l : Nat) (k : Int32) (F : Vw) (s : Int32), ¬ 0 < k → gunG n C R (nI b) l k F s = gunR n C R b l F s := by
  intro l
  induction l with
  | zero => intro k F s _; rfl
  | succ l ih =>
    intro k F s hk
    have e : hsF (nI b) k = k := by unfold hsF; rw [cif_f (fun w => hk w.2)]
    rw [gunG, gunR, e, ih k _ _ hk, passG_R hb hk]
theorem hld_s {n b : Nat} {C : Nat → Int32} {R : RF} {F : Vw} {s : Int32} : ∀ k, hldV n C R b (passH n C R b F s) (s + 1) k = hldV n C R b F s (k + 1) := by
  intro k
  induction k with
  | zero => show passH n C R b F s = passH n C R b F (s + nI 0); rw [show nI 0 = 0 from rfl, Int32.add_zero]
  | succ k ih =>
    show passH n C R b (hldV n C R b (passH n C R b F s) (s + 1) k) (s + 1 + nI k) = passH n C R b (hldV n C R b F s (k + 1)) (s + nI (k + 1))
    rw [ih, Int32.add_assoc, show (1 : Int32) + nI k = nI (k + 1) by rw [Int32.add_comm]; exact jn_succ k]
theorem gunG_H {n b : Nat} {C : Nat → Int32} {R : RF} (hb : b < 100) : ∀ (k l : Nat) (F : Vw) (s : Int32), k ≤ l → k < 100 → gunG n C R (nI b) l (nI k) F s = gunR n C R b (l - k) (hldV n C R b F s k) (s + nI k) := by
  intro k
  induction k with
  | zero =>
    intro l F s _ _
    rw [gunG_R hb l (nI 0) F s (by decide), show nI 0 = 0 from rfl, Int32.add_zero]
    rfl
  | succ k ih =>
    intro l F s hl hk
    match l, hl with
    | l + 1, hl =>
      have hp : (0 : Int32) < nI (k + 1) := by rw [jn_ltx0, jn_cl (by omega)]; omega
      have e : hsF (nI b) (nI (k + 1)) = nI k := by
        unfold hsF
        rw [cif_t ⟨nI_m1 hb, hp⟩]
        exact jn_sub (a := k + 1) (b := 1) (by omega)
      rw [gunG, e, passG_H hb hp, ih l _ _ (by omega) (by omega), hld_s, Int32.add_assoc, show (1 : Int32) + nI k = nI (k + 1) by rw [Int32.add_comm]; exact jn_succ k, show l + 1 - (k + 1) = l - k by omega]
theorem FOk_gunG {u : Int} {n : Nat} {C : Nat → Int32} {R : RF} {h : Int32} (hn : n ≤ 8) (hh : hOk n h) : ∀ (l : Nat) (k : Int32) (F : Vw) (s : Int32), s.toInt + l ≤ (C 5).toInt → FOk u n C F s → ∃ s', FOk u n C (gunG n C R h l k F s) s' := by
  intro l
  induction l with
  | zero => intro k F s _ h; exact ⟨s, h⟩
  | succ l ih =>
    intro k F s hs h
    have e := i_add1 (x := s) (by have := Int32.toInt_lt (C 5); omega)
    exact ih _ _ _ (by omega) (FOk_passG hn hh h (by omega))
def qM (I : Nat → Nat → Int32) (m : Nat) (R : RF) : Prop := okM I ∧ RuM I m R ∧ (0 < nM I → FOk 19 (nM I) (lv7 (I 104)) (VM I) (I 106 48)) ∧ I 91 25 = -1 ∧ I 91 26 = 0
def bM (q : Option (Nat × Int32)) (x5 x6 : Int32) : Prop := match q with
  | none => x5 = -1 ∧ x6 = 0
  | some p => x5 = nI p.1 ∧ x6 = p.2 ∧ p.1 < 100
theorem bM_y1 {ok : Nat → Prop} {sc : Nat → Int32} {v : Nat} {x5 x6 : Int32} (h : bM (bstN ok sc v) x5 x6) (hv : v < 100) (ho : ok v) (hx : x5 = -1 ∨ x6 < sc v) : bM (bstN ok sc (v + 1)) (nI v) (sc v) := by
  unfold bstN
  match hq : bstN ok sc v with
  | none => simp only; rw [cif_t ho]; exact ⟨rfl, rfl, hv⟩
  | some p =>
    rw [hq] at h
    simp only
    have hx2 : p.2 < sc v := by
      rcases hx with w | w
      · rw [h.1] at w; exact absurd w (nI_m1 h.2.2)
      · rw [← h.2.1]; exact w
    rw [cif_t ⟨ho, hx2⟩]
    exact ⟨rfl, rfl, hv⟩
theorem bM_y0 {ok : Nat → Prop} {sc : Nat → Int32} {v : Nat} {x5 x6 : Int32} (h : bM (bstN ok sc v) x5 x6) (h5 : ¬ x5 = -1) (hx : ¬ x6 < sc v) : bM (bstN ok sc (v + 1)) x5 x6 := by
  unfold bstN
  match hq : bstN ok sc v with
  | none =>
    rw [hq] at h
    exact absurd h.1 h5
  | some p =>
    rw [hq] at h
    simp only
    rw [cif_f (fun w => hx (by rw [h.2.1]; exact w.2))]
    exact h
theorem bM_n {ok : Nat → Prop} {sc : Nat → Int32} {v : Nat} {x5 x6 : Int32} (h : bM (bstN ok sc v) x5 x6) (ho : ¬ ok v) : bM (bstN ok sc (v + 1)) x5 x6 := by
  unfold bstN
  match hq : bstN ok sc v with
  | none =>
    rw [hq] at h
    simp only
    rw [cif_f ho]
    exact h
  | some p =>
    rw [hq] at h
    simp only
    rw [cif_f (fun w => ho w.1)]
    exact h
theorem bM_r {q : Option (Nat × Int32)} {x5 x6 w : Int32} (h : bM q x5 x6) : resB q w = if x5 = -1 then -1000000 else if w = 0 then x5 else x6 := by
  unfold resB
  match q with
  | none => simp only; rw [if_pos h.1]
  | some p => simp only; rw [h.1, h.2.1, if_neg (nI_m1 h.2.2)]
theorem bst_some {sc : Nat → Int32} : ∀ v, bstN (fun _ => True) sc (v + 1) ≠ none := by
  intro v
  unfold bstN
  match bstN (fun _ => True) sc v with
  | none => simp only; rw [cif_t trivial]; exact fun w => by cases w
  | some p =>
    simp only
    rcases Classical.em (True ∧ p.2 < sc v) with q | q
    · rw [cif_t q]; exact fun w => by cases w
    · rw [cif_f q]; exact fun w => by cases w
/-- the reference's memory behind a look ahead, all put back -/
def asd (I I' : Nat → Nat → Int32) : Prop := (∀ k, k < 49 → I' 111 k = I 106 k) ∧ fr (fun c _ => c = 100 ∨ c = 101 ∨ c = 107 ∨ c = 108 ∨ c = 109 ∨ c = 111) I I'
theorem asd_s {I I' : Nat → Nat → Int32} (h : asd I I') : fr Scr I I' := fr_mo h.2 (fun c k w => by (try dsimp only at w); unfold Scr; omega)
theorem asd_0 {I A : Nat → Nat → Int32} (h : kpP I 106 111 0 0 49 A) : asd I A := ⟨fun k hk => by have := h.1 k hk; rwa [Nat.zero_add] at this, fr_mo h.2.2 (fun c k w => by (try dsimp only at w ⊢); omega)⟩
theorem asd_back {I I' A : Nat → Nat → Int32} (h : asd I I') (h25 : I 91 25 = -1) (h26 : I 91 26 = 0) (hA : (∀ k, k < 49 → A 106 k = I' 111 k) ∧ A 91 25 = -1 ∧ A 91 26 = 0 ∧ fr (fun c k => c = 100 ∨ c = 101 ∨ (c = 106 ∧ k < 49) ∨ c = 107 ∨ c = 108 ∨ c = 109 ∨ (c = 91 ∧ (k = 25 ∨ k = 26))) I' A) : asd I A := by
  refine ⟨fun k hk => by rw [hA.2.2.2 111 k (by (try dsimp only); omega)]; exact h.1 k hk, fun c k w => ?_⟩
  try dsimp only at w
  by_cases q : c = 106 ∧ k < 49
  · rw [q.1, hA.1 k q.2]; exact h.1 k q.2
  · by_cases z : c = 91 ∧ (k = 25 ∨ k = 26)
    · rcases z.2 with y | y
      · rw [z.1, y, hA.2.1, h25]
      · rw [z.1, y, hA.2.2.1, h26]
    · rw [hA.2.2.2 c k (by (try dsimp only); omega), h.2 c k (by (try dsimp only); omega)]
theorem qM_a {I I' : Nat → Nat → Int32} {m : Nat} {R : RF} (h : qM I m R) (e : asd I I') : qM I' m R ∧ nM I' = nM I ∧ VM I' = VM I ∧ lv7 (I' 104) = lv7 (I 104) ∧ I' 106 48 = I 106 48 := by
  obtain ⟨w1, w2, w3⟩ := MM_fr (I := I) (I1 := I') (e.2 91 22 (by (try dsimp only); omega)) (fun k => e.2 105 k (by (try dsimp only); omega)) (fun k => e.2 106 k (by (try dsimp only); omega))
  have C7 : lv7 (I' 104) = lv7 (I 104) := lv7_fr (fun k => e.2 104 k (by (try dsimp only); omega))
  have s : I' 106 48 = I 106 48 := e.2 106 48 (by (try dsimp only); omega)
  refine ⟨⟨w3 h.1, RuM_fr h.2.1 (e.2 91 13 (by (try dsimp only); omega)) (fun c k q1 q2 => e.2 c k (by (try dsimp only); omega)), fun hn => ?_, by rw [e.2 91 25 (by (try dsimp only); omega)]; exact h.2.2.2.1, by rw [e.2 91 26 (by (try dsimp only); omega)]; exact h.2.2.2.2⟩, w1, w2, C7, s⟩
  rw [w1] at hn ⊢
  rw [w2, C7, s]
  exact h.2.2.1 hn
theorem in_n {b : Int32} {n : Nat} (hn : n ≤ 8) : (¬ b < 0 ∧ ¬ nI n - 1 < b) ↔ okBN n b := by
  have e : (nI n - 1).toInt = (n : Int) - 1 := by
    rw [i_sub (y := 1) (by rw [jn_toInt (by omega), i_1]; omega), jn_toInt (by omega), i_1]
  unfold okBN
  rw [Int32.lt_iff_toInt_lt, Int32.lt_iff_toInt_lt, Int32.le_iff_toInt_le, Int32.lt_iff_toInt_lt, e, jn_toInt (by omega), i_0]
  omega
def csX12_scoreAtGun : List (Nat × Nat × Nat × mj_PT) := [(312, 0, 2, mj_rcv 12 tX12_scoreOf), (385, 0, 1, mj_rcv 12 tX12_toGun), (388, 0, 1, mj_rcv 12 tX12_takeBack)]
theorem csX12_scoreAtGun_ok : mj_Cs mX12_scoreAtGun 10 csX12_scoreAtGun := (mj_CsV (D' := 4) (ci := 12) (q := (RX12, TX12, 45)) sdX12_scoreOf (Nat.le_of_ble_eq_true rfl) fX12_scoreOf rfl rfl iX12_scoreOf vX12_scoreOf (by decide +kernel) l12_312 (mj_CsV (D' := 9) (ci := 12) (q := (RX12, TX12, 45)) sdX12_toGun (Nat.le_of_ble_eq_true rfl) fX12_toGun rfl rfl iX12_toGun vX12_toGun (by decide +kernel) l12_385 (mj_CsV (D' := 1) (ci := 12) (q := (RX12, TX12, 45)) sdX12_takeBack (Nat.le_of_ble_eq_true rfl) fX12_takeBack rfl rfl iX12_takeBack vX12_takeBack (by decide +kernel) l12_388 mj_Cs0)))
def cutX12_scoreAtGun : List (Nat × List Bool) := []
set_option maxRecDepth 100000 in
set_option maxHeartbeats 4000000 in
theorem inX12_scoreAtGun {Ω : mj_Om} {l : Launch} {d : Nat} {Φ : Option Value → mj_M → Prop} (hd : 10 ≤ d) (b_ : Int32) (I : Nat → Nat → Int32) (J : Nat → Nat → Int64)
    (h : (((91 = 91 ∧ mj_isk (mk I J)) ∧ (∃ u519 : Int, (∃ m520 : Nat, (∃ R521 : RF, ((u519 ≤ 1000 ∧ FM u519 I ∧ RuM I m520 R521 ∧ hOk (nM I) (I 91 25)) ∧ (∀ I522 : Nat → Nat → Int32, (VM I522 = gunG (nM I) (lv7 (I 104)) R521 (I 91 25) ((lv7 (I 104)) 5 - (I 106 48)).toNatClampNeg (I 91 26) (VM I) (I 106 48) ∧ I522 106 48 = (lv7 (I 104)) 5 ∧ fr (fun c k => c = 100 ∨ c = 101 ∨ (c = 106 ∧ k < 49) ∨ c = 107 ∨ c = 108 ∨ c = 109 ∨ (c = 91 ∧ k = 26)) I I522) → ((91 = 91 ∧ mj_isk (mk I522 J)) ∧ (∃ b524 : Nat, b_ = nI b524 ∧ ((okM I522 ∧ b524 < nM I522 ∧ lineOk (lv7 (I522 104)) ∧ colB (nM I522) (VM I522)) ∧ ((91 = 91 ∧ mj_isk (mk I522 J)) ∧ (∀ I527 : Nat → Nat → Int32, ((∀ k, k < 49 → I527 106 k = I522 111 k) ∧ I527 91 25 = -1 ∧ I527 91 26 = 0 ∧ fr (fun c k => (c = 106 ∧ k < 49) ∨ (c = 91 ∧ (k = 25 ∨ k = 26))) I522 I527) → (Φ (some (.int (score (nM I522) (lv7 (I522 104)) (I522 104 6) (VM I522) b524))) (mk I527 J))))))))))))))) :
    mj_Met Ω l false mX12_scoreAtGun d 0 0 [.ref 91, .int b_] (mk I J) Φ := mj_entry (by decide) rfl (fun h => (by cases h)) (Nat.le_of_ble_eq_true rfl) (mj_blk (μ := mX12_scoreAtGun) (P := pX12_scoreAtGun) (cut := cutX12_scoreAtGun) (cs := csX12_scoreAtGun) dX12_scoreAtGun csX12_scoreAtGun_ok hd 11 0 _ h)
def tX12_scoreAtGun : mj_PT := fun as M Φ => match as with
  | [.ref this, .int b_] => ((this = 91 ∧ mj_isk M) ∧ (∃ b : Nat, b_ = nI b ∧ (∃ u : Int, (∃ m : Nat, (∃ R : RF, ((u ≤ 1000 ∧ FM u M.2.2.1 ∧ RuM M.2.2.1 m R ∧ hOk (nM M.2.2.1) (M.2.2.1 91 25) ∧ b < nM M.2.2.1) ∧ (∀ I1 : Nat → Nat → Int32, ((∀ k, k < 49 → I1 106 k = M.2.2.1 111 k) ∧ I1 91 25 = -1 ∧ I1 91 26 = 0 ∧ fr (fun c k => c = 100 ∨ c = 101 ∨ (c = 106 ∧ k < 49) ∨ c = 107 ∨ c = 108 ∨ c = 109 ∨ (c = 91 ∧ (k = 25 ∨ k = 26))) M.2.2.1 I1) → Φ (some (.int (score (nM M.2.2.1) (lv7 (M.2.2.1 104)) ((lv7 (M.2.2.1 104)) 6) (gunG (nM M.2.2.1) (lv7 (M.2.2.1 104)) R (M.2.2.1 91 25) ((lv7 (M.2.2.1 104)) 5 - (M.2.2.1 106 48)).toNatClampNeg (M.2.2.1 91 26) (VM M.2.2.1) (M.2.2.1 106 48)) b))) (M.1, M.2.1, I1, M.2.2.2))))))))
  | _ => False
set_option maxHeartbeats 4000000 in
theorem mnX12_scoreAtGun {Ω : mj_Om} {l : Launch} {d : Nat} {Φ : Option Value → mj_M → Prop} (hd : 10 ≤ d) (b : Nat) (u : Int) (m : Nat) (R : RF) (I : Nat → Nat → Int32) (J : Nat → Nat → Int64) (hp : u ≤ 1000 ∧ FM u I ∧ RuM I m R ∧ hOk (nM I) (I 91 25) ∧ b < nM I) (h : ∀ I1 : Nat → Nat → Int32, ((∀ k, k < 49 → I1 106 k = I 111 k) ∧ I1 91 25 = -1 ∧ I1 91 26 = 0 ∧ fr (fun c k => c = 100 ∨ c = 101 ∨ (c = 106 ∧ k < 49) ∨ c = 107 ∨ c = 108 ∨ c = 109 ∨ (c = 91 ∧ (k = 25 ∨ k = 26))) I I1) → Φ (some (.int (score (nM I) (lv7 (I 104)) ((lv7 (I 104)) 6) (gunG (nM I) (lv7 (I 104)) R (I 91 25) ((lv7 (I 104)) 5 - (I 106 48)).toNatClampNeg (I 91 26) (VM I) (I 106 48)) b))) (mk I1 J)) : mj_Met Ω l false mX12_scoreAtGun d 0 0 [.ref 91, .int (nI b)] (mk I J) Φ := by
  refine inX12_scoreAtGun hd (nI b) I J ?_
  obtain ⟨hu, ⟨hc, hF⟩, hR, hh, hb⟩ := hp
  have l5 := hF.1.2.2.2.2.2.1
  have hs := hF.2.1
  have eL := i_sub (x := lv7 (I 104) 5) (y := I 106 48) (by omega)
  refine ⟨⟨by trivial, mj_isk_mk _ _⟩, u, m, R, ⟨hu, ⟨hc, hF⟩, hR, hh⟩, fun A hA => ?_⟩
  obtain ⟨a1, a2, a3⟩ := hA
  obtain ⟨oA, nA, -⟩ := mM_fr a3 (by (try dsimp only); omega) hc
  have CA : lv7 (A 104) = lv7 (I 104) := lv7_fr (fun k => a3 104 k (by (try dsimp only); omega))
  have e6 : A 104 6 = lv7 (I 104) 6 := by rw [← CA, lv7_at (by decide)]
  obtain ⟨s', hG⟩ := FOk_gunG (R := R) hc.2 hh (lv7 (I 104) 5 - I 106 48).toNatClampNeg (I 91 26) (VM I) (I 106 48) (by rw [Int32.toNatClampNeg, eL]; omega) hF
  refine ⟨⟨by trivial, mj_isk_mk _ _⟩, b, rfl, ⟨oA, by omega, by rw [CA]; exact hF.1, by rw [nA, a1]; exact FOk_col hG⟩, ⟨by trivial, mj_isk_mk _ _⟩, fun B hB => ?_⟩
  rw [nA, CA, e6, a1]
  refine h B ⟨fun k hk => by rw [hB.1 k hk, a3 111 k (by (try dsimp only); omega)], hB.2.1, hB.2.2.1, fun c k w => ?_⟩
  try dsimp only at w
  rw [hB.2.2.2 c k (by (try dsimp only); omega), a3 c k (by (try dsimp only); omega)]
theorem sdX12_scoreAtGun : mj_Sd mX12_scoreAtGun 10 tX12_scoreAtGun := by
  intro Ω l d hd as M Φ h
  unfold tX12_scoreAtGun at h
  split at h
  · rename_i z_this b_
    obtain ⟨⟨rfl, hM⟩, b, rfl, u, m, R, hp, h⟩ := h
    rw [mj_isk_of hM]
    exact mnX12_scoreAtGun hd b u m R _ _ hp (by
      rw [mj_isk_of hM] at h
      exact h)
  · exact h.elim
def csX12_bestCell : List (Nat × Nat × Nat × mj_PT) := [(274, 0, 4, mj_rcv 12 tX12_put_), (283, 0, 3, mj_rcv 12 tX12_of), (289, 0, 3, mj_rcv 12 tX12_isHeld), (382, 0, 1, mj_rcv 12 tX12_putAside), (391, 0, 2, mj_rcv 12 tX12_scoreAtGun)]
theorem csX12_bestCell_ok : mj_Cs mX12_bestCell 11 csX12_bestCell := (mj_CsV (D' := 1) (ci := 12) (q := (RX12, TX12, 45)) sdX12_put_ (Nat.le_of_ble_eq_true rfl) fX12_put_ rfl rfl iX12_put_ vX12_put_ (by decide +kernel) l12_274 (mj_CsV (D' := 1) (ci := 12) (q := (RX12, TX12, 45)) sdX12_of (Nat.le_of_ble_eq_true rfl) fX12_of rfl rfl iX12_of vX12_of (by decide +kernel) l12_283 (mj_CsV (D' := 2) (ci := 12) (q := (RX12, TX12, 45)) sdX12_isHeld (Nat.le_of_ble_eq_true rfl) fX12_isHeld rfl rfl iX12_isHeld vX12_isHeld (by decide +kernel) l12_289 (mj_CsV (D' := 1) (ci := 12) (q := (RX12, TX12, 45)) sdX12_putAside (Nat.le_of_ble_eq_true rfl) fX12_putAside rfl rfl iX12_putAside vX12_putAside (by decide +kernel) l12_382 (mj_CsV (D' := 10) (ci := 12) (q := (RX12, TX12, 45)) sdX12_scoreAtGun (Nat.le_of_ble_eq_true rfl) fX12_scoreAtGun rfl rfl iX12_scoreAtGun vX12_scoreAtGun (by decide +kernel) l12_391 mj_Cs0)))))
def cutX12_bestCell : List (Nat × List Bool) := [(13, [true, true, true, true, true, true, true, true, false, false]), (42, [true, true, true, true, true, true, true, true, true, false]), (79, [true, true, true, true, true, true, true, true, true, false]), (115, [true, true, true, true, true, true, true, true, true, false])]
def pX12_bestCell_0 : List (Nat × Instr × Nat) := [(0, .aload_n 0, 1), (1, .invokevirtual 382, 3), (4, .iconst (-1), 1), (5, .istore 5, 2), (7, .iconst 0, 1), (8, .istore 6, 2), (10, .iconst 0, 1), (11, .istore 7, 2), (13, .iload 7, 2)]
set_option maxRecDepth 100000 in
theorem dX12_bestCell_0 : mj_pd cX12_bestCell pX12_bestCell_0 := mj_pdB (by decide +kernel)
set_option maxRecDepth 100000 in
set_option maxHeartbeats 4000000 in
theorem inX12_bestCell {Ω : mj_Om} {l : Launch} {d : Nat} {Φ : Option Value → mj_M → Prop} (hd : 11 ≤ d) (b_ : Int32) (k : Int32) (y_ : Int32) (w : Int32) (I : Nat → Nat → Int32) (J : Nat → Nat → Int64)
    (h : (((91 = 91 ∧ mj_isk (mk I J)) ∧ (∀ I537 : Nat → Nat → Int32, (kpP I 106 111 0 0 49 I537) → (mj_G Ω l false mX12_bestCell d 0 0 Φ 0 0 13 ([some (.ref 91), some (.int b_), some (.int k), some (.int y_), some (.int w), some (.int (-1 : Int32)), some (.int (0 : Int32)), some (.int (0 : Int32)), none, none], [], (mk I537 J))))))) :
    mj_Met Ω l false mX12_bestCell d 0 0 [.ref 91, .int b_, .int k, .int y_, .int w] (mk I J) Φ := mj_entry (by decide) rfl (fun h => (by cases h)) (Nat.le_of_ble_eq_true rfl) (mj_blk (μ := mX12_bestCell) (P := pX12_bestCell_0) (cut := cutX12_bestCell) (cs := csX12_bestCell) dX12_bestCell_0 csX12_bestCell_ok hd 10 0 _ h)
def pX12_bestCell_13 : List (Nat × Instr × Nat) := [(13, .iload 7, 2), (15, .iload_n 3, 1), (16, .if_icmp .ge 105, 3), (19, .aload_n 0, 1), (20, .iload_n 1, 1), (21, .iload_n 2, 1), (22, .invokevirtual 283, 3), (25, .iload 7, 2), (27, .if_icmp .ne 7, 3), (30, .iconst 1, 1), (31, .goto 4, 3), (34, .iconst 0, 1), (35, .istore 8, 2), (37, .iload 8, 2), (39, .ifCond .ne 40, 3), (42, .aload_n 0, 1), (79, .aload_n 0, 1), (121, .iload 5, 2), (123, .iconst (-1), 1), (124, .if_icmp .ne 9, 3), (127, .ldc_w 381, 3), (130, .goto 15, 3), (133, .iload 4, 2), (135, .ifCond .ne 8, 3), (138, .iload 5, 2), (140, .goto 5, 3), (143, .iload 6, 2), (145, .ireturn, 1)]
set_option maxRecDepth 100000 in
theorem dX12_bestCell_13 : mj_pd cX12_bestCell pX12_bestCell_13 := mj_pdB (by decide +kernel)
set_option maxRecDepth 100000 in
set_option maxHeartbeats 4000000 in
theorem bX12_bestCell_13 {Ω : mj_Om} {l : Launch} {d : Nat} {Φ : Option Value → mj_M → Prop} (hd : 11 ≤ d) (x1 : Int32) (x2 : Int32) (x3 : Int32) (x4 : Int32) (x5 : Int32) (x6 : Int32) (x7 : Int32) (I : Nat → Nat → Int32) (J : Nat → Nat → Int64)
    (h : ((if x7 < x3 then (mj_gd (mj_inB (((6 : Int32) * x1) + x2) 49) (if (I 106 ((((6 : Int32) * x1) + x2)).toNatClampNeg) = x7 then (mj_G Ω l false mX12_bestCell d 0 0 Φ 0 0 79 ([some (.ref 91), some (.int x1), some (.int x2), some (.int x3), some (.int x4), some (.int x5), some (.int x6), some (.int x7), some (.int (1 : Int32)), none], [], (mk I J))) else (mj_G Ω l false mX12_bestCell d 0 0 Φ 0 0 42 ([some (.ref 91), some (.int x1), some (.int x2), some (.int x3), some (.int x4), some (.int x5), some (.int x6), some (.int x7), some (.int (0 : Int32)), none], [], (mk I J))))) else (if x5 = (-1 : Int32) then (Φ (some (.int (-1000000 : Int32))) (mk I J)) else (if x4 = (0 : Int32) then (Φ (some (.int x5)) (mk I J)) else (Φ (some (.int x6)) (mk I J))))))) :
    mj_G Ω l false mX12_bestCell d 0 0 Φ 0 0 13 ([some (.ref 91), some (.int x1), some (.int x2), some (.int x3), some (.int x4), some (.int x5), some (.int x6), some (.int x7), none, none], [], mk I J) := mj_blk (μ := mX12_bestCell) (P := pX12_bestCell_13) (cut := cutX12_bestCell) (cs := csX12_bestCell) dX12_bestCell_13 csX12_bestCell_ok hd 29 13 _ h
def pX12_bestCell_42 : List (Nat × Instr × Nat) := [(42, .aload_n 0, 1), (43, .iload_n 2, 1), (44, .ifCond .ne 8, 3), (47, .iload 7, 2), (49, .goto 9, 3), (52, .aload_n 0, 1), (53, .iload_n 1, 1), (54, .iconst 0, 1), (55, .invokevirtual 283, 3), (58, .iload_n 2, 1), (59, .ifCond .ne 12, 3), (62, .aload_n 0, 1), (63, .iload_n 1, 1), (64, .iconst 1, 1), (65, .invokevirtual 283, 3), (68, .goto 5, 3), (71, .iload 7, 2), (73, .invokevirtual 289, 3), (76, .ifCond .ne 39, 3), (79, .aload_n 0, 1), (115, .iinc 7 1, 3)]
set_option maxRecDepth 100000 in
theorem dX12_bestCell_42 : mj_pd cX12_bestCell pX12_bestCell_42 := mj_pdB (by decide +kernel)
set_option maxRecDepth 100000 in
set_option maxHeartbeats 4000000 in
theorem bX12_bestCell_42 {Ω : mj_Om} {l : Launch} {d : Nat} {Φ : Option Value → mj_M → Prop} (hd : 11 ≤ d) (x1 : Int32) (x2 : Int32) (x3 : Int32) (x4 : Int32) (x5 : Int32) (x6 : Int32) (x7 : Int32) (x8 : Int32) (I : Nat → Nat → Int32) (J : Nat → Nat → Int64)
    (h : ((if x2 = (0 : Int32) then (if x2 = (0 : Int32) then (mj_gd (mj_inB (((6 : Int32) * x1) + (1 : Int32)) 49) ((91 = 91 ∧ mj_isk (mk I J)) ∧ ((okM I) ∧ (if (b2i (held (nM I) (VM I) x7 (I 106 ((((6 : Int32) * x1) + (1 : Int32))).toNatClampNeg))) = (0 : Int32) then (mj_G Ω l false mX12_bestCell d 0 0 Φ 0 0 79 ([some (.ref 91), some (.int x1), some (.int x2), some (.int x3), some (.int x4), some (.int x5), some (.int x6), some (.int x7), some (.int x8), none], [], (mk I J))) else (mj_G Ω l false mX12_bestCell d 0 0 Φ 0 0 115 ([some (.ref 91), some (.int x1), some (.int x2), some (.int x3), some (.int x4), some (.int x5), some (.int x6), some (.int x7), some (.int x8), none], [], (mk I J))))))) else ((91 = 91 ∧ mj_isk (mk I J)) ∧ ((okM I) ∧ (if (b2i (held (nM I) (VM I) x7 x7)) = (0 : Int32) then (mj_G Ω l false mX12_bestCell d 0 0 Φ 0 0 79 ([some (.ref 91), some (.int x1), some (.int x2), some (.int x3), some (.int x4), some (.int x5), some (.int x6), some (.int x7), some (.int x8), none], [], (mk I J))) else (mj_G Ω l false mX12_bestCell d 0 0 Φ 0 0 115 ([some (.ref 91), some (.int x1), some (.int x2), some (.int x3), some (.int x4), some (.int x5), some (.int x6), some (.int x7), some (.int x8), none], [], (mk I J))))))) else (mj_gd (mj_inB (((6 : Int32) * x1) + (0 : Int32)) 49) (if x2 = (0 : Int32) then (mj_gd (mj_inB (((6 : Int32) * x1) + (1 : Int32)) 49) ((91 = 91 ∧ mj_isk (mk I J)) ∧ ((okM I) ∧ (if (b2i (held (nM I) (VM I) (I 106 ((((6 : Int32) * x1) + (0 : Int32))).toNatClampNeg) (I 106 ((((6 : Int32) * x1) + (1 : Int32))).toNatClampNeg))) = (0 : Int32) then (mj_G Ω l false mX12_bestCell d 0 0 Φ 0 0 79 ([some (.ref 91), some (.int x1), some (.int x2), some (.int x3), some (.int x4), some (.int x5), some (.int x6), some (.int x7), some (.int x8), none], [], (mk I J))) else (mj_G Ω l false mX12_bestCell d 0 0 Φ 0 0 115 ([some (.ref 91), some (.int x1), some (.int x2), some (.int x3), some (.int x4), some (.int x5), some (.int x6), some (.int x7), some (.int x8), none], [], (mk I J))))))) else ((91 = 91 ∧ mj_isk (mk I J)) ∧ ((okM I) ∧ (if (b2i (held (nM I) (VM I) (I 106 ((((6 : Int32) * x1) + (0 : Int32))).toNatClampNeg) x7)) = (0 : Int32) then (mj_G Ω l false mX12_bestCell d 0 0 Φ 0 0 79 ([some (.ref 91), some (.int x1), some (.int x2), some (.int x3), some (.int x4), some (.int x5), some (.int x6), some (.int x7), some (.int x8), none], [], (mk I J))) else (mj_G Ω l false mX12_bestCell d 0 0 Φ 0 0 115 ([some (.ref 91), some (.int x1), some (.int x2), some (.int x3), some (.int x4), some (.int x5), some (.int x6), some (.int x7), some (.int x8), none], [], (mk I J))))))))))) :
    mj_G Ω l false mX12_bestCell d 0 0 Φ 0 0 42 ([some (.ref 91), some (.int x1), some (.int x2), some (.int x3), some (.int x4), some (.int x5), some (.int x6), some (.int x7), some (.int x8), none], [], mk I J) := mj_blk (μ := mX12_bestCell) (P := pX12_bestCell_42) (cut := cutX12_bestCell) (cs := csX12_bestCell) dX12_bestCell_42 csX12_bestCell_ok hd 22 42 _ h
def pX12_bestCell_79 : List (Nat × Instr × Nat) := [(79, .aload_n 0, 1), (80, .iload_n 1, 1), (81, .iload_n 2, 1), (82, .iload 7, 2), (84, .invokevirtual 274, 3), (87, .aload_n 0, 1), (88, .iload_n 1, 1), (89, .invokevirtual 391, 3), (92, .istore 9, 2), (94, .iload 5, 2), (96, .iconst (-1), 1), (97, .if_icmp .eq 10, 3), (100, .iload 9, 2), (102, .iload 6, 2), (104, .if_icmp .le 11, 3), (107, .iload 7, 2), (109, .istore 5, 2), (111, .iload 9, 2), (113, .istore 6, 2), (115, .iinc 7 1, 3)]
set_option maxRecDepth 100000 in
theorem dX12_bestCell_79 : mj_pd cX12_bestCell pX12_bestCell_79 := mj_pdB (by decide +kernel)
set_option maxRecDepth 100000 in
set_option maxHeartbeats 4000000 in
theorem bX12_bestCell_79 {Ω : mj_Om} {l : Launch} {d : Nat} {Φ : Option Value → mj_M → Prop} (hd : 11 ≤ d) (x1 : Int32) (x2 : Int32) (x3 : Int32) (x4 : Int32) (x5 : Int32) (x6 : Int32) (x7 : Int32) (x8 : Int32) (I : Nat → Nat → Int32) (J : Nat → Nat → Int64)
    (h : ((mj_gd (mj_inB (((6 : Int32) * x1) + x2) 49) ((91 = 91 ∧ mj_isk (mk (mj_ui I 106 ((((6 : Int32) * x1) + x2)).toNatClampNeg x7) J)) ∧ (∃ b539 : Nat, x1 = nI b539 ∧ (∃ u540 : Int, (∃ m541 : Nat, (∃ R542 : RF, ((u540 ≤ 1000 ∧ FM u540 (mj_ui I 106 ((((6 : Int32) * x1) + x2)).toNatClampNeg x7) ∧ RuM (mj_ui I 106 ((((6 : Int32) * x1) + x2)).toNatClampNeg x7) m541 R542 ∧ hOk (nM (mj_ui I 106 ((((6 : Int32) * x1) + x2)).toNatClampNeg x7)) ((mj_ui I 106 ((((6 : Int32) * x1) + x2)).toNatClampNeg x7) 91 25) ∧ b539 < nM (mj_ui I 106 ((((6 : Int32) * x1) + x2)).toNatClampNeg x7)) ∧ (∀ I543 : Nat → Nat → Int32, ((∀ k, k < 49 → I543 106 k = (mj_ui I 106 ((((6 : Int32) * x1) + x2)).toNatClampNeg x7) 111 k) ∧ I543 91 25 = -1 ∧ I543 91 26 = 0 ∧ fr (fun c k => c = 100 ∨ c = 101 ∨ (c = 106 ∧ k < 49) ∨ c = 107 ∨ c = 108 ∨ c = 109 ∨ (c = 91 ∧ (k = 25 ∨ k = 26))) (mj_ui I 106 ((((6 : Int32) * x1) + x2)).toNatClampNeg x7) I543) → (if x5 = (-1 : Int32) then (mj_G Ω l false mX12_bestCell d 0 0 Φ 0 0 115 ([some (.ref 91), some (.int x1), some (.int x2), some (.int x3), some (.int x4), some (.int x7), some (.int (score (nM (mj_ui I 106 ((((6 : Int32) * x1) + x2)).toNatClampNeg x7)) (lv7 ((mj_ui I 106 ((((6 : Int32) * x1) + x2)).toNatClampNeg x7) 104)) ((lv7 ((mj_ui I 106 ((((6 : Int32) * x1) + x2)).toNatClampNeg x7) 104)) 6) (gunG (nM (mj_ui I 106 ((((6 : Int32) * x1) + x2)).toNatClampNeg x7)) (lv7 ((mj_ui I 106 ((((6 : Int32) * x1) + x2)).toNatClampNeg x7) 104)) R542 ((mj_ui I 106 ((((6 : Int32) * x1) + x2)).toNatClampNeg x7) 91 25) ((lv7 ((mj_ui I 106 ((((6 : Int32) * x1) + x2)).toNatClampNeg x7) 104)) 5 - ((mj_ui I 106 ((((6 : Int32) * x1) + x2)).toNatClampNeg x7) 106 48)).toNatClampNeg ((mj_ui I 106 ((((6 : Int32) * x1) + x2)).toNatClampNeg x7) 91 26) (VM (mj_ui I 106 ((((6 : Int32) * x1) + x2)).toNatClampNeg x7)) ((mj_ui I 106 ((((6 : Int32) * x1) + x2)).toNatClampNeg x7) 106 48)) b539)), some (.int x7), some (.int x8), none], [], (mk I543 J))) else (if x6 < (score (nM (mj_ui I 106 ((((6 : Int32) * x1) + x2)).toNatClampNeg x7)) (lv7 ((mj_ui I 106 ((((6 : Int32) * x1) + x2)).toNatClampNeg x7) 104)) ((lv7 ((mj_ui I 106 ((((6 : Int32) * x1) + x2)).toNatClampNeg x7) 104)) 6) (gunG (nM (mj_ui I 106 ((((6 : Int32) * x1) + x2)).toNatClampNeg x7)) (lv7 ((mj_ui I 106 ((((6 : Int32) * x1) + x2)).toNatClampNeg x7) 104)) R542 ((mj_ui I 106 ((((6 : Int32) * x1) + x2)).toNatClampNeg x7) 91 25) ((lv7 ((mj_ui I 106 ((((6 : Int32) * x1) + x2)).toNatClampNeg x7) 104)) 5 - ((mj_ui I 106 ((((6 : Int32) * x1) + x2)).toNatClampNeg x7) 106 48)).toNatClampNeg ((mj_ui I 106 ((((6 : Int32) * x1) + x2)).toNatClampNeg x7) 91 26) (VM (mj_ui I 106 ((((6 : Int32) * x1) + x2)).toNatClampNeg x7)) ((mj_ui I 106 ((((6 : Int32) * x1) + x2)).toNatClampNeg x7) 106 48)) b539) then (mj_G Ω l false mX12_bestCell d 0 0 Φ 0 0 115 ([some (.ref 91), some (.int x1), some (.int x2), some (.int x3), some (.int x4), some (.int x7), some (.int (score (nM (mj_ui I 106 ((((6 : Int32) * x1) + x2)).toNatClampNeg x7)) (lv7 ((mj_ui I 106 ((((6 : Int32) * x1) + x2)).toNatClampNeg x7) 104)) ((lv7 ((mj_ui I 106 ((((6 : Int32) * x1) + x2)).toNatClampNeg x7) 104)) 6) (gunG (nM (mj_ui I 106 ((((6 : Int32) * x1) + x2)).toNatClampNeg x7)) (lv7 ((mj_ui I 106 ((((6 : Int32) * x1) + x2)).toNatClampNeg x7) 104)) R542 ((mj_ui I 106 ((((6 : Int32) * x1) + x2)).toNatClampNeg x7) 91 25) ((lv7 ((mj_ui I 106 ((((6 : Int32) * x1) + x2)).toNatClampNeg x7) 104)) 5 - ((mj_ui I 106 ((((6 : Int32) * x1) + x2)).toNatClampNeg x7) 106 48)).toNatClampNeg ((mj_ui I 106 ((((6 : Int32) * x1) + x2)).toNatClampNeg x7) 91 26) (VM (mj_ui I 106 ((((6 : Int32) * x1) + x2)).toNatClampNeg x7)) ((mj_ui I 106 ((((6 : Int32) * x1) + x2)).toNatClampNeg x7) 106 48)) b539)), some (.int x7), some (.int x8), none], [], (mk I543 J))) else (mj_G Ω l false mX12_bestCell d 0 0 Φ 0 0 115 ([some (.ref 91), some (.int x1), some (.int x2), some (.int x3), some (.int x4), some (.int x5), some (.int x6), some (.int x7), some (.int x8), none], [], (mk I543 J))))))))))))))) :
    mj_G Ω l false mX12_bestCell d 0 0 Φ 0 0 79 ([some (.ref 91), some (.int x1), some (.int x2), some (.int x3), some (.int x4), some (.int x5), some (.int x6), some (.int x7), some (.int x8), none], [], mk I J) := mj_blk (μ := mX12_bestCell) (P := pX12_bestCell_79) (cut := cutX12_bestCell) (cs := csX12_bestCell) dX12_bestCell_79 csX12_bestCell_ok hd 21 79 _ h
def pX12_bestCell_115 : List (Nat × Instr × Nat) := [(13, .iload 7, 2), (115, .iinc 7 1, 3), (118, .goto (-105), 3)]
set_option maxRecDepth 100000 in
theorem dX12_bestCell_115 : mj_pd cX12_bestCell pX12_bestCell_115 := mj_pdB (by decide +kernel)
set_option maxRecDepth 100000 in
set_option maxHeartbeats 4000000 in
theorem bX12_bestCell_115 {Ω : mj_Om} {l : Launch} {d : Nat} {Φ : Option Value → mj_M → Prop} (hd : 11 ≤ d) (x1 : Int32) (x2 : Int32) (x3 : Int32) (x4 : Int32) (x5 : Int32) (x6 : Int32) (x7 : Int32) (x8 : Int32) (I : Nat → Nat → Int32) (J : Nat → Nat → Int64)
    (h : ((mj_G Ω l false mX12_bestCell d 0 0 Φ 0 0 13 ([some (.ref 91), some (.int x1), some (.int x2), some (.int x3), some (.int x4), some (.int x5), some (.int x6), some (.int (x7 + (1 : Int32))), none, none], [], (mk I J))))) :
    mj_G Ω l false mX12_bestCell d 0 0 Φ 0 0 115 ([some (.ref 91), some (.int x1), some (.int x2), some (.int x3), some (.int x4), some (.int x5), some (.int x6), some (.int x7), some (.int x8), none], [], mk I J) := mj_blk (μ := mX12_bestCell) (P := pX12_bestCell_115) (cut := cutX12_bestCell) (cs := csX12_bestCell) dX12_bestCell_115 csX12_bestCell_ok hd 4 115 _ h
def tX12_bestCell : mj_PT := fun as M Φ => match as with
  | [.ref this, .int b_, .int k, .int y_, .int w] => ((this = 91 ∧ mj_isk M) ∧ (∃ b : Nat, b_ = nI b ∧ (∃ y : Nat, y_ = nI y ∧ (∃ m : Nat, (∃ R : RF, ((qM M.2.2.1 m R ∧ b < nM M.2.2.1 ∧ ((k = 0 ∧ y = ((lv7 (M.2.2.1 104)) 0).toNatClampNeg) ∨ (k = 1 ∧ y = 20)) ∧ (w = 0 ∨ w = 1)) ∧ (∀ I1 : Nat → Nat → Int32, (fr Scr M.2.2.1 I1) → Φ (some (.int (if k = 0 then whereR (nM M.2.2.1) (lv7 (M.2.2.1 104)) R (VM M.2.2.1) (M.2.2.1 106 48) (nI b) w else nearR (nM M.2.2.1) (lv7 (M.2.2.1 104)) R (VM M.2.2.1) (M.2.2.1 106 48) (nI b) w))) (M.1, M.2.1, I1, M.2.2.2))))))))
  | _ => False
set_option maxHeartbeats 16000000 in
theorem mnX12_bestCell {Ω : mj_Om} {l : Launch} {d : Nat} {Φ : Option Value → mj_M → Prop} (hd : 11 ≤ d) (b : Nat) (k : Int32) (y : Nat) (w : Int32) (m : Nat) (R : RF) (I : Nat → Nat → Int32) (J : Nat → Nat → Int64) (hp : qM I m R ∧ b < nM I ∧ ((k = 0 ∧ y = ((lv7 (I 104)) 0).toNatClampNeg) ∨ (k = 1 ∧ y = 20)) ∧ (w = 0 ∨ w = 1)) (h : ∀ I1 : Nat → Nat → Int32, (fr Scr I I1) → Φ (some (.int (if k = 0 then whereR (nM I) (lv7 (I 104)) R (VM I) (I 106 48) (nI b) w else nearR (nM I) (lv7 (I 104)) R (VM I) (I 106 48) (nI b) w))) (mk I1 J)) : mj_Met Ω l false mX12_bestCell d 0 0 [.ref 91, .int (nI b), .int k, .int (nI y), .int w] (mk I J) Φ := by
  refine inX12_bestCell hd (nI b) k (nI y) w I J ?_
  obtain ⟨hq, hb, hk, hw⟩ := hp
  obtain ⟨⟨hc, hn⟩, hR, hFF, h25, h26⟩ := id hq
  have hF := hFF (by omega)
  have hbk := hF.2.2 b hb
  have l0 := hF.1.1
  have hcl0 : (lv7 (I 104) 0).toNatClampNeg = (lv7 (I 104) 0).toInt.toNat := rfl
  have hok := okBN_n hb hn
  refine ⟨⟨by trivial, mj_isk_mk _ _⟩, fun A hA => ?_⟩
  rcases hk with ⟨rfl, hy⟩ | ⟨rfl, hy⟩
  · have sc79 : ∀ (v : Nat) (x5 x6 x8 : Int32) (I' : Nat → Nat → Int32), v < y → bM (bstN (fun v => nI v = VM I 0 b ∨ ¬ held (nM I) (VM I) (nI v) (VM I 1 b)) (fun v => sFrom (nM I) (lv7 (I 104)) R (VM I) (I 106 48) b (nI v) (VM I 1 b)) v) x5 x6 → asd I I' → (nI v = VM I 0 b ∨ ¬ held (nM I) (VM I) (nI v) (VM I 1 b)) → (∀ (y5 y6 : Int32) (I2 : Nat → Nat → Int32), bM (bstN (fun v => nI v = VM I 0 b ∨ ¬ held (nM I) (VM I) (nI v) (VM I 1 b)) (fun v => sFrom (nM I) (lv7 (I 104)) R (VM I) (I 106 48) b (nI v) (VM I 1 b)) (v + 1)) y5 y6 → asd I I2 → mj_G Ω l false mX12_bestCell d 0 0 Φ 0 0 13 ([some (.ref 91), some (.int (nI b)), some (.int 0), some (.int (nI y)), some (.int w), some (.int y5), some (.int y6), some (.int (nI (v + 1))), none, none], [], mk I2 J)) → mj_G Ω l false mX12_bestCell d 0 0 Φ 0 0 79 ([some (.ref 91), some (.int (nI b)), some (.int 0), some (.int (nI y)), some (.int w), some (.int x5), some (.int x6), some (.int (nI v)), some (.int x8), none], [], mk I' J) := by
      intro v x5 x6 x8 I' hv hb2 ha ho nx
      refine bX12_bestCell_79 hd (nI b) 0 (nI y) w x5 x6 (nI v) x8 I' J ?_
      obtain ⟨q1, q2, q3, q4, q5⟩ := qM_a hq ha
      simp (disch := omega) only [jn_in, jn_cl, gd_dec, n6_0, n6_1]
      have hFx : FOk 40 (nM I) (lv7 (I 104)) (vup (vup (VM I) 0 b (nI v)) 1 b (VM I 1 b)) (I 106 48) := FOk_mv hF (by rw [jn_toInt (by omega)]; omega) (by have := hbk.2.1; omega)
      have hV : VM (mj_ui I' 106 (6 * b) (nI v)) = vup (vup (VM I) 0 b (nI v)) 1 b (VM I 1 b) := by
        rw [VMu_0 (by omega), q3]
        funext a c
        simp only [vup]
        by_cases g1 : a = 1 <;> by_cases g2 : c = b <;> simp [g1, g2]
      have hB : fr (fun c k => c = 106 ∧ k < 48) I' (mj_ui I' 106 (6 * b) (nI v)) := fr_ui fr_rf ⟨rfl, by omega⟩
      generalize mj_ui I' 106 (6 * b) (nI v) = B at hV hB ⊢
      obtain ⟨oB, nB, -⟩ := mM_fr hB (by (try dsimp only); omega) q1.1
      have CB : lv7 (B 104) = lv7 (I 104) := by rw [lv7_fr (fun q => hB 104 q (by (try dsimp only); omega)), q4]
      have sB : B 106 48 = I 106 48 := by rw [hB 106 48 (by (try dsimp only); omega), q5]
      have b25 : B 91 25 = -1 := by rw [hB 91 25 (by (try dsimp only); omega)]; exact q1.2.2.2.1
      have b26 : B 91 26 = 0 := by rw [hB 91 26 (by (try dsimp only); omega)]; exact q1.2.2.2.2
      refine ⟨⟨by trivial, mj_isk_mk _ _⟩, b, rfl, 40, m, R, ⟨by decide, ⟨oB, by rw [nB, q2, CB, hV, sB]; exact hFx⟩, RuM_fr q1.2.1 (hB 91 13 (by (try dsimp only); omega)) (fun c q y1 y2 => hB c q (by (try dsimp only); omega)), by rw [b25]; exact Or.inl rfl, by omega⟩, fun D hD => ?_⟩
      rw [nB, q2, CB, hV, sB, b25, b26, gunG_V]
      have hD2 : asd I D := asd_back ha h25 h26 ⟨fun q hq2 => by rw [hD.1 q hq2, hB 111 q (by (try dsimp only); omega)], hD.2.1, hD.2.2.1, fun c q y1 => by
        try dsimp only at y1
        rw [hD.2.2.2 c q (by (try dsimp only); omega), hB c q (by (try dsimp only); omega)]⟩
      by_cases z5 : x5 = -1
      · rw [if_pos z5]
        refine bX12_bestCell_115 hd (nI b) 0 (nI y) w _ _ (nI v) x8 D J ?_
        rw [jn_succ]
        exact nx _ _ D (bM_y1 hb2 (by omega) ho (Or.inl z5)) hD2
      · rw [if_neg z5]
        by_cases z6 : x6 < sFrom (nM I) (lv7 (I 104)) R (VM I) (I 106 48) b (nI v) (VM I 1 b)
        · rw [if_pos (show x6 < score (nM I) (lv7 (I 104)) (lv7 (I 104) 6) (gunV (nM I) (lv7 (I 104)) R (lv7 (I 104) 5 - I 106 48).toNatClampNeg (vup (vup (VM I) 0 b (nI v)) 1 b (VM I 1 b)) (I 106 48)) b from z6)]
          refine bX12_bestCell_115 hd (nI b) 0 (nI y) w _ _ (nI v) x8 D J ?_
          rw [jn_succ]
          exact nx _ _ D (bM_y1 hb2 (by omega) ho (Or.inr z6)) hD2
        · rw [if_neg (show ¬ x6 < score (nM I) (lv7 (I 104)) (lv7 (I 104) 6) (gunV (nM I) (lv7 (I 104)) R (lv7 (I 104) 5 - I 106 48).toNatClampNeg (vup (vup (VM I) 0 b (nI v)) 1 b (VM I 1 b)) (I 106 48)) b from z6)]
          refine bX12_bestCell_115 hd (nI b) 0 (nI y) w x5 x6 (nI v) x8 D J ?_
          rw [jn_succ]
          exact nx _ _ D (bM_y0 hb2 z5 z6) hD2
    have key : ∀ (j v : Nat) (x5 x6 : Int32) (I' : Nat → Nat → Int32), v + j = y → bM (bstN (fun v => nI v = VM I 0 b ∨ ¬ held (nM I) (VM I) (nI v) (VM I 1 b)) (fun v => sFrom (nM I) (lv7 (I 104)) R (VM I) (I 106 48) b (nI v) (VM I 1 b)) v) x5 x6 → asd I I' → mj_G Ω l false mX12_bestCell d 0 0 Φ 0 0 13 ([some (.ref 91), some (.int (nI b)), some (.int 0), some (.int (nI y)), some (.int w), some (.int x5), some (.int x6), some (.int (nI v)), none, none], [], mk I' J) := by
      intro j
      induction j with
      | zero =>
        intro v x5 x6 I' hv hb2 ha
        refine bX12_bestCell_13 hd (nI b) 0 (nI y) w x5 x6 (nI v) I' J ?_
        rw [if_neg (by rw [jn_lt (by omega) (by omega)]; omega)]
        have h' := h I' (asd_s ha)
        rw [show v = y by omega] at hb2
        have er := bM_r (w := w) hb2
        rw [if_pos (by trivial)] at h'
        unfold whereR at h'
        rw [cif_t ⟨hok, hw⟩, jn_cl (by omega), ← hy] at h'
        rw [er] at h'
        split
        · rename_i z; rw [if_pos z] at h'; exact h'
        · rename_i z
          rw [if_neg z] at h'
          split
          · rename_i z2; rw [if_pos z2] at h'; exact h'
          · rename_i z2; rw [if_neg z2] at h'; exact h'
      | succ j ih =>
        intro v x5 x6 I' hv hb2 ha
        refine bX12_bestCell_13 hd (nI b) 0 (nI y) w x5 x6 (nI v) I' J ?_
        obtain ⟨q1, q2, q3, q4, q5⟩ := qM_a hq ha
        rw [if_pos (by rw [jn_lt (by omega) (by omega)]; omega)]
        simp (disch := omega) only [jn_in, jn_cl, gd_dec, n6_0, n6_1]
        rw [← VM_0 (I := I') (b := b) (by omega), q3]
        by_cases z : VM I 0 b = nI v
        · rw [if_pos z]
          exact sc79 v x5 x6 _ I' (by omega) hb2 ha (Or.inl z.symm) (fun y5 y6 I2 g1 g2 => ih (v + 1) y5 y6 I2 (by omega) g1 g2)
        · rw [if_neg z]
          refine bX12_bestCell_42 hd (nI b) 0 (nI y) w x5 x6 (nI v) _ I' J ?_
          rw [if_pos (by trivial), if_pos (by trivial)]
          simp (disch := omega) only [jn_in, jn_cl, gd_dec, n6_0, n6_1]
          rw [← VM_1 (I := I') (b := b) (by omega)]
          refine ⟨⟨by trivial, mj_isk_mk _ _⟩, q1.1, ?_⟩
          rw [q2, q3]
          split
          · rename_i z2
            rw [b2i_e0] at z2
            exact sc79 v x5 x6 _ I' (by omega) hb2 ha (Or.inr z2) (fun y5 y6 I2 g1 g2 => ih (v + 1) y5 y6 I2 (by omega) g1 g2)
          · rename_i z2
            rw [b2i_e0] at z2
            refine bX12_bestCell_115 hd (nI b) 0 (nI y) w x5 x6 (nI v) _ I' J ?_
            rw [jn_succ]
            exact ih (v + 1) x5 x6 I' (by omega) (bM_n hb2 (fun g => g.elim (fun g2 => z g2.symm) z2)) ha
    exact key y 0 _ _ A (by omega) ⟨rfl, rfl⟩ (asd_0 hA)
  · have sc79 : ∀ (v : Nat) (x5 x6 x8 : Int32) (I' : Nat → Nat → Int32), v < y → bM (bstN (fun v => nI v = VM I 1 b ∨ ¬ held (nM I) (VM I) (VM I 0 b) (nI v)) (fun v => sFrom (nM I) (lv7 (I 104)) R (VM I) (I 106 48) b (VM I 0 b) (nI v)) v) x5 x6 → asd I I' → (nI v = VM I 1 b ∨ ¬ held (nM I) (VM I) (VM I 0 b) (nI v)) → (∀ (y5 y6 : Int32) (I2 : Nat → Nat → Int32), bM (bstN (fun v => nI v = VM I 1 b ∨ ¬ held (nM I) (VM I) (VM I 0 b) (nI v)) (fun v => sFrom (nM I) (lv7 (I 104)) R (VM I) (I 106 48) b (VM I 0 b) (nI v)) (v + 1)) y5 y6 → asd I I2 → mj_G Ω l false mX12_bestCell d 0 0 Φ 0 0 13 ([some (.ref 91), some (.int (nI b)), some (.int 1), some (.int (nI y)), some (.int w), some (.int y5), some (.int y6), some (.int (nI (v + 1))), none, none], [], mk I2 J)) → mj_G Ω l false mX12_bestCell d 0 0 Φ 0 0 79 ([some (.ref 91), some (.int (nI b)), some (.int 1), some (.int (nI y)), some (.int w), some (.int x5), some (.int x6), some (.int (nI v)), some (.int x8), none], [], mk I' J) := by
      intro v x5 x6 x8 I' hv hb2 ha ho nx
      refine bX12_bestCell_79 hd (nI b) 1 (nI y) w x5 x6 (nI v) x8 I' J ?_
      obtain ⟨q1, q2, q3, q4, q5⟩ := qM_a hq ha
      simp (disch := omega) only [jn_in, jn_cl, gd_dec, n6_0, n6_1]
      have hFx : FOk 40 (nM I) (lv7 (I 104)) (vup (vup (VM I) 0 b (VM I 0 b)) 1 b (nI v)) (I 106 48) := FOk_mv hF hbk.1 (by rw [jn_toInt (by omega)]; have := hF.2.1; omega)
      have hV : VM (mj_ui I' 106 (6 * b + 1) (nI v)) = vup (vup (VM I) 0 b (VM I 0 b)) 1 b (nI v) := by
        rw [VMu_1 (by omega), q3]
        rw [show vup (VM I) 0 b (VM I 0 b) = VM I from vup_id _ _ _]
      have hB : fr (fun c k => c = 106 ∧ k < 48) I' (mj_ui I' 106 (6 * b + 1) (nI v)) := fr_ui fr_rf ⟨rfl, by omega⟩
      generalize mj_ui I' 106 (6 * b + 1) (nI v) = B at hV hB ⊢
      obtain ⟨oB, nB, -⟩ := mM_fr hB (by (try dsimp only); omega) q1.1
      have CB : lv7 (B 104) = lv7 (I 104) := by rw [lv7_fr (fun q => hB 104 q (by (try dsimp only); omega)), q4]
      have sB : B 106 48 = I 106 48 := by rw [hB 106 48 (by (try dsimp only); omega), q5]
      have b25 : B 91 25 = -1 := by rw [hB 91 25 (by (try dsimp only); omega)]; exact q1.2.2.2.1
      have b26 : B 91 26 = 0 := by rw [hB 91 26 (by (try dsimp only); omega)]; exact q1.2.2.2.2
      refine ⟨⟨by trivial, mj_isk_mk _ _⟩, b, rfl, 40, m, R, ⟨by decide, ⟨oB, by rw [nB, q2, CB, hV, sB]; exact hFx⟩, RuM_fr q1.2.1 (hB 91 13 (by (try dsimp only); omega)) (fun c q y1 y2 => hB c q (by (try dsimp only); omega)), by rw [b25]; exact Or.inl rfl, by omega⟩, fun D hD => ?_⟩
      rw [nB, q2, CB, hV, sB, b25, b26, gunG_V]
      have hD2 : asd I D := asd_back ha h25 h26 ⟨fun q hq2 => by rw [hD.1 q hq2, hB 111 q (by (try dsimp only); omega)], hD.2.1, hD.2.2.1, fun c q y1 => by
        try dsimp only at y1
        rw [hD.2.2.2 c q (by (try dsimp only); omega), hB c q (by (try dsimp only); omega)]⟩
      by_cases z5 : x5 = -1
      · rw [if_pos z5]
        refine bX12_bestCell_115 hd (nI b) 1 (nI y) w _ _ (nI v) x8 D J ?_
        rw [jn_succ]
        exact nx _ _ D (bM_y1 hb2 (by omega) ho (Or.inl z5)) hD2
      · rw [if_neg z5]
        by_cases z6 : x6 < sFrom (nM I) (lv7 (I 104)) R (VM I) (I 106 48) b (VM I 0 b) (nI v)
        · rw [if_pos (show x6 < score (nM I) (lv7 (I 104)) (lv7 (I 104) 6) (gunV (nM I) (lv7 (I 104)) R (lv7 (I 104) 5 - I 106 48).toNatClampNeg (vup (vup (VM I) 0 b (VM I 0 b)) 1 b (nI v)) (I 106 48)) b from z6)]
          refine bX12_bestCell_115 hd (nI b) 1 (nI y) w _ _ (nI v) x8 D J ?_
          rw [jn_succ]
          exact nx _ _ D (bM_y1 hb2 (by omega) ho (Or.inr z6)) hD2
        · rw [if_neg (show ¬ x6 < score (nM I) (lv7 (I 104)) (lv7 (I 104) 6) (gunV (nM I) (lv7 (I 104)) R (lv7 (I 104) 5 - I 106 48).toNatClampNeg (vup (vup (VM I) 0 b (VM I 0 b)) 1 b (nI v)) (I 106 48)) b from z6)]
          refine bX12_bestCell_115 hd (nI b) 1 (nI y) w x5 x6 (nI v) x8 D J ?_
          rw [jn_succ]
          exact nx _ _ D (bM_y0 hb2 z5 z6) hD2
    have key : ∀ (j v : Nat) (x5 x6 : Int32) (I' : Nat → Nat → Int32), v + j = y → bM (bstN (fun v => nI v = VM I 1 b ∨ ¬ held (nM I) (VM I) (VM I 0 b) (nI v)) (fun v => sFrom (nM I) (lv7 (I 104)) R (VM I) (I 106 48) b (VM I 0 b) (nI v)) v) x5 x6 → asd I I' → mj_G Ω l false mX12_bestCell d 0 0 Φ 0 0 13 ([some (.ref 91), some (.int (nI b)), some (.int 1), some (.int (nI y)), some (.int w), some (.int x5), some (.int x6), some (.int (nI v)), none, none], [], mk I' J) := by
      intro j
      induction j with
      | zero =>
        intro v x5 x6 I' hv hb2 ha
        refine bX12_bestCell_13 hd (nI b) 1 (nI y) w x5 x6 (nI v) I' J ?_
        rw [if_neg (by rw [jn_lt (by omega) (by omega)]; omega)]
        have h' := h I' (asd_s ha)
        rw [show v = y by omega] at hb2
        have er := bM_r (w := w) hb2
        rw [if_neg (by decide)] at h'
        unfold nearR at h'
        rw [cif_t ⟨hok, hw⟩, jn_cl (by omega), ← hy] at h'
        rw [er] at h'
        split
        · rename_i z; rw [if_pos z] at h'; exact h'
        · rename_i z
          rw [if_neg z] at h'
          split
          · rename_i z2; rw [if_pos z2] at h'; exact h'
          · rename_i z2; rw [if_neg z2] at h'; exact h'
      | succ j ih =>
        intro v x5 x6 I' hv hb2 ha
        refine bX12_bestCell_13 hd (nI b) 1 (nI y) w x5 x6 (nI v) I' J ?_
        obtain ⟨q1, q2, q3, q4, q5⟩ := qM_a hq ha
        rw [if_pos (by rw [jn_lt (by omega) (by omega)]; omega)]
        simp (disch := omega) only [jn_in, jn_cl, gd_dec, n6_0, n6_1]
        rw [← VM_1 (I := I') (b := b) (by omega), q3]
        by_cases z : VM I 1 b = nI v
        · rw [if_pos z]
          exact sc79 v x5 x6 _ I' (by omega) hb2 ha (Or.inl z.symm) (fun y5 y6 I2 g1 g2 => ih (v + 1) y5 y6 I2 (by omega) g1 g2)
        · rw [if_neg z]
          refine bX12_bestCell_42 hd (nI b) 1 (nI y) w x5 x6 (nI v) _ I' J ?_
          rw [if_neg (show ¬ (1 : Int32) = 0 by decide)]
          simp (disch := omega) only [jn_in, jn_cl, gd_dec, n6_0, n6_1]
          rw [if_neg (show ¬ (1 : Int32) = 0 by decide), ← VM_0 (I := I') (b := b) (by omega)]
          refine ⟨⟨by trivial, mj_isk_mk _ _⟩, q1.1, ?_⟩
          rw [q2, q3]
          split
          · rename_i z2
            rw [b2i_e0] at z2
            exact sc79 v x5 x6 _ I' (by omega) hb2 ha (Or.inr z2) (fun y5 y6 I2 g1 g2 => ih (v + 1) y5 y6 I2 (by omega) g1 g2)
          · rename_i z2
            rw [b2i_e0] at z2
            refine bX12_bestCell_115 hd (nI b) 1 (nI y) w x5 x6 (nI v) _ I' J ?_
            rw [jn_succ]
            exact ih (v + 1) x5 x6 I' (by omega) (bM_n hb2 (fun g => g.elim (fun g2 => z g2.symm) z2)) ha
    exact key y 0 _ _ A (by omega) ⟨rfl, rfl⟩ (asd_0 hA)
theorem sdX12_bestCell : mj_Sd mX12_bestCell 11 tX12_bestCell := by
  intro Ω l d hd as M Φ h
  unfold tX12_bestCell at h
  split at h
  · rename_i z_this b_ k y_ w
    obtain ⟨⟨rfl, hM⟩, b, rfl, y, rfl, m, R, hp, h⟩ := h
    rw [mj_isk_of hM]
    exact mnX12_bestCell hd b k y w m R _ _ hp (by
      rw [mj_isk_of hM] at h
      exact h)
  · exact h.elim
