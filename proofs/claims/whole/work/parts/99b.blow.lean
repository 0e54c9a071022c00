/-! ===== blow on both sides (by program, wip/whole/p99b.py) ===== -/
set_option maxHeartbeats 8000000 in
theorem two_blow {Ω : mj_Om} {l : Launch} {I : Nat → Nat → Int32} {J : Nat → Nat → Int64} (x : Int32) (y : Int64) (h : Rel I) : Two Ω l mX11_blow mX12_blow [.int x, .long y] I J := by
  obtain ⟨w1, w2, w3, w4, w5⟩ := id h.2.2.1
  have hn8 := w1.2
  obtain ⟨m, K, k1, k2⟩ := id h.2.1
  have hq := Rel_c3 h k1 k2
  refine inX11_blow (Nat.le_of_ble_eq_true rfl) x y I J ?_
  rw [w1.1]
  have no : ∀ J1 : Nat → Nat → Int64, ¬ (0 < nF I 39 ∧ ¬ x < 1 ∧ ¬ I 27 5 - I 39 9 < x) → TwoE Ω l mX12_blow [.int x, .long y] (some (.int (-1))) (mk I J1) := fun J1 q => by
    refine ⟨_, I, J1, rfl, rfl, inX12_blow (Nat.le_of_ble_eq_true rfl) x y I J1 ?_⟩
    rw [w2.1, w3]
    by_cases q0 : 0 < nF I 39
    case neg => rw [if_neg (show ¬ (0 : Int32) < nI _ from nnl (a := 0) (by omega) (by omega))]; exact ⟨I, J1, rfl, rfl, h⟩
    rw [if_pos (show (0 : Int32) < nI _ from nlt (a := 0) q0 (by omega))]
    have f5 : I 104 5 = I 27 5 := by have := congrFun (w5 q0).1 5; unfold lv7 at this; rw [if_pos (by decide), if_pos (by decide)] at this; exact this
    rw [f5, w4]
    by_cases q1 : x < 1
    · rw [if_pos q1]; exact ⟨I, J1, rfl, rfl, h⟩
    rw [if_neg q1]
    by_cases q2 : I 27 5 - I 39 9 < x
    · rw [if_pos q2]; exact ⟨I, J1, rfl, rfl, h⟩
    exact absurd ⟨q0, q1, q2⟩ q
  by_cases q0 : 0 < nF I 39
  case neg => rw [if_neg (show ¬ (0 : Int32) < nI _ from nnl (a := 0) (by omega) (by omega))]; exact no J (fun w => q0 w.1)
  rw [if_pos (show (0 : Int32) < nI _ from nlt (a := 0) q0 (by omega))]
  by_cases q1 : x < 1
  · rw [if_pos q1]; exact no J (fun w => w.2.1 q1)
  rw [if_neg q1]
  by_cases q2 : I 27 5 - I 39 9 < x
  · rw [if_pos q2]; exact no J (fun w => w.2.2 q2)
  rw [if_neg q2]
  obtain ⟨x1, x2, x3, -⟩ := w5 q0
  have f5 : I 104 5 = I 27 5 := by have := congrFun x1 5; unfold lv7 at this; rw [if_pos (by decide), if_pos (by decide)] at this; exact this
  have l5 : lv7 (I 27) 5 = I 27 5 := if_pos (by decide)
  obtain ⟨c5, s0⟩ : (1 ≤ (I 27 5).toInt ∧ (I 27 5).toInt ≤ 60) ∧ (0 ≤ (I 39 9).toInt ∧ (I 39 9).toInt ≤ (I 27 5).toInt) := by
    have a := x3.1.2.2.2.2.2.1
    have b := x3.2.1
    rw [l5] at a b
    exact ⟨a, b⟩
  obtain ⟨k, rfl, hk1, hk2⟩ := can c5 s0 q1 q2
  generalize hnn : nF I 39 = n at *
  generalize hCC : lv7 (I 27) = C at *
  have C5 : (C 5).toInt = (I 27 5).toInt := by rw [l5]
  generalize hRR : rfK m K = R at *
  obtain ⟨a0, nx0, g1, g2, g3, g4, g5⟩ := relA_g h
  have hgg : I 0 17 = I 91 24 := h.2.2.2.2.2.2.2.1
  generalize hg : I 0 17 = g at *
  refine lp_inv (σ := (Nat → Nat → Int32) × (Nat → Nat → Int64)) (n := k) (G := fun i p => mj_G Ω l false mX11_blow 60 0 0 (TwoE Ω l mX12_blow [.int (nI k), .long y]) 0 0 21 ([some (.ref 0), some (.int (nI k)), some (.long y), none, some (.int (nI i))], [], mk p.1 p.2)) (fun i p => clI I n C m R i p.1 ∧ chain (stKC (blP n C R g)) i (I, y) (p.1, p.2 79 0)) (fun i p hi hI hk => ?_) (fun p hI => ?_) k 0 (I, mj_ul J 79 0 y) (by omega) ⟨⟨w1, hnn, hCC, hq.1.2.1, x3, by show (I 39 9).toInt = (I 39 9).toInt + (0 : Nat); omega, ⟨nx0, a0, g5, g2, g3, g1⟩, fr_rf⟩, by show (I, mj_ul J 79 0 y 79 0) = (I, y); rw [ul_s]⟩
  · obtain ⟨A, Ja⟩ := p
    obtain ⟨cl, ch⟩ := hI
    dsimp only at cl ch ⊢
    obtain ⟨nx, a, b1, b2, b3, b4⟩ := cl.2.2.2.2.2.2.1
    have hs : (A 39 9).toInt < (C 5).toInt := by rw [cl.2.2.2.2.2.1, C5]; omega
    have hgA : A 0 17 = g := by rw [cl.2.2.2.2.2.2.2 0 17 (by unfold clF paF; omega)]; exact hg
    refine bX11_blow_21 (Nat.le_of_ble_eq_true rfl) (nI k) (nI i) y A Ja ?_
    rw [if_pos (nlt hi (by omega)), jn_succ]
    refine ⟨⟨by trivial, by trivial, mj_isk_mk _ _⟩, nx, a, ⟨b1, b2, b3, b4⟩, fun A1 hr => ?_⟩
    obtain ⟨e1, e2, e3, e4, e5, e6, e7⟩ := clI_rem cl hr
    refine ⟨⟨by trivial, by trivial, by unfold isCF; omega, mj_isk_mk _ _⟩, 19, m, R, ⟨by decide, e1, e2⟩, fun B Jb hB => ?_⟩
    obtain ⟨f1, -, f2, f3⟩ := hB
    change (VF B 39, Jb 79 0) = (moveV (nF A1 39) (lv7 (A1 27)) (shV (nF A1 39) (VF A1 39)) ((VF A1 39) 1) (gustN (A1 0 17) (nF A1 39) (askV (nF A1 39) (lv7 (A1 27)) R (VF A1 39) (A1 39 9) (-1), Ja 79 0)).1 (A1 39 9), (gustN (A1 0 17) (nF A1 39) (askV (nF A1 39) (lv7 (A1 27)) R (VF A1 39) (A1 39 9) (-1), Ja 79 0)).2) at f1
    rw [e3, e4, e5, e6, e7 0 17 (by decide) (by decide), hgA] at f1
    rw [e6] at f2
    have f3' : fr paF A1 B := fr_mo f3 (fun c k w => by unfold paF; omega)
    have f1a := congrArg Prod.fst f1
    dsimp only at f1a
    exact hk (B, Jb) ⟨clI_up cl b2 b4 hr f1a (blP_ok (R := R) (g := g) hn8 _ _ (Ja 79 0) cl.2.2.2.2.1 hs) f2 (by omega) f3', ⟨(A, Ja 79 0), ch, A1, nx, a, b1, b2, b3, b4, hr, f1, f2, f3'⟩⟩
  · obtain ⟨A, Ja⟩ := p
    obtain ⟨cl, ch⟩ := hI
    dsimp only at cl ch ⊢
    refine bX11_blow_21 (Nat.le_of_ble_eq_true rfl) (nI k) (nI k) y A Ja ?_
    rw [if_neg Int32.lt_irrefl]
    have lo := clF_lo cl.2.2.2.2.2.2.2
    obtain ⟨m1, m2, m3, m4, m5⟩ := qM_hi hq.2 lo
    refine ⟨_, A, Ja, rfl, rfl, inX12_blow (Nat.le_of_ble_eq_true rfl) (nI k) y A Ja ?_⟩
    rw [lo 91 22 (by omega), w2.1, w3, if_pos (show (0 : Int32) < nI _ from nlt (a := 0) q0 (by omega)), if_neg q1, lo 104 5 (by omega), lo 106 48 (by omega), f5, w4, if_neg q2]
    have r0 : rlI A n C m R 0 A := ⟨m1.1, by rw [m2, w3], by rw [m4, x1], m1.2.1, by rw [m3, x2, m5, w4]; exact x3, by omega, m1.2.2.2.1, m1.2.2.2.2, ⟨a0, by rw [lo 91 31 (by omega)]; exact g4, g1⟩, fr_rf⟩
    have s0' : (A 106 48).toInt = (I 39 9).toInt := by rw [m5, w4]
    have hgA : A 91 24 = g := by rw [lo 91 24 (by omega)]; exact hgg.symm
    refine lp_inv (σ := (Nat → Nat → Int32) × (Nat → Nat → Int64)) (n := k) (G := fun i p => mj_G Ω l false mX12_blow 60 0 0 (fun r' M' => ∃ (I2 : Nat → Nat → Int32) (J2 : Nat → Nat → Int64), r' = some (.int (A 39 9)) ∧ M' = mk I2 J2 ∧ Rel I2) 0 0 18 ([some (.ref 91), some (.int (nI k)), some (.long y), none, some (.int (nI i)), none], [], mk p.1 p.2)) (fun i p => rlI A n C m R i p.1 ∧ chain (stKM (blP n C R g)) i (A, y) (p.1, p.2 91 32)) (fun i p hi hI hk => ?_) (fun p hI => ?_) k 0 (A, mj_ul Ja 91 32 y) (by omega) ⟨r0, by show (A, mj_ul Ja 91 32 y 91 32) = (A, y); rw [ul_s]⟩
    · obtain ⟨B, Jb⟩ := p
      obtain ⟨rl, rh⟩ := hI
      dsimp only at rl rh ⊢
      obtain ⟨a, b1, b2⟩ := rl.2.2.2.2.2.2.2.2.1
      have hs : (B 106 48).toInt < (C 5).toInt := by rw [rl.2.2.2.2.2.1, C5, s0']; omega
      refine bX12_blow_18 (Nat.le_of_ble_eq_true rfl) (nI k) (nI i) y B Jb ?_
      rw [if_pos (nlt hi (by omega))]
      refine ⟨⟨by trivial, mj_isk_mk _ _⟩, a, ⟨b1, b2⟩, fun B1 hr => ?_⟩
      obtain ⟨e1, e2, e3, e4, e5, e6, e7, e8⟩ := rlI_kp rl hr
      refine ⟨⟨by trivial, mj_isk_mk _ _⟩, 19, m, R, ⟨by decide, e1, e2, by rw [e7]; exact Or.inl rfl⟩, fun D0 hD => ?_⟩
      obtain ⟨f1, f2, f3, -, f4⟩ := hD
      rw [e3, e4, e5, e6, e7, spdV_m] at f1
      rw [e3, e5] at f2
      rw [e7, e8, hsF_m] at f3
      have gO : ∀ j, gOk n 19 (C 0).toInt (-(30 * (B 106 48).toInt)) (gustN g j (askV n C R (VM B) (B 106 48) (-1), Jb 91 32)).1 := gOk_gN (gOk_ask (FOk_g rl.2.2.2.2.1))
      obtain ⟨oD, nD, tD⟩ := mM_fr f4 (by (try dsimp only); omega) e1.1
      rw [e3] at nD tD
      have gD : D0 91 24 = g := by rw [f4 91 24 (by (try dsimp only); omega), hr.2.2.2 91 24 (by (try dsimp only); omega), rl.2.2.2.2.2.2.2.2.2 91 24 (by unfold rlF paM; omega)]; exact hgA
      refine lp_inv (σ := (Nat → Nat → Int32) × (Nat → Nat → Int64)) (n := n) (G := fun j q => mj_G Ω l false mX12_blow 60 0 0 (fun r' M' => ∃ (I2 : Nat → Nat → Int32) (J2 : Nat → Nat → Int64), r' = some (.int (A 39 9)) ∧ M' = mk I2 J2 ∧ Rel I2) 0 0 36 ([some (.ref 91), some (.int (nI k)), some (.long y), none, some (.int (nI i)), some (.int (nI j))], [], mk q.1 q.2)) (fun j q => VM q.1 = (gustN g j (askV n C R (VM B) (B 106 48) (-1), Jb 91 32)).1 ∧ q.2 91 32 = (gustN g j (askV n C R (VM B) (B 106 48) (-1), Jb 91 32)).2 ∧ fr (fun c k => c = 106 ∧ k < 48) D0 q.1) (fun j q hj hQ hkk => ?_) (fun q hQ => ?_) n 0 (D0, Jb) (by omega) ⟨f1, rfl, fr_rf⟩
      · obtain ⟨D, Jd⟩ := q
        obtain ⟨hV, hJ, hfr⟩ := hQ
        dsimp only at hV hJ hfr ⊢
        obtain ⟨oE, nE, tE⟩ := mM_fr hfr (by (try dsimp only); omega) oD
        rw [nD] at nE tE
        have gE : D 91 24 = g := by rw [hfr 91 24 (by (try dsimp only); omega)]; exact gD
        have spj := gO j j hj
        refine bX12_blow_36 (Nat.le_of_ble_eq_true rfl) (nI k) (nI i) (nI j) y D Jd ?_
        rw [tE, if_pos (nlt hj (by omega)), jn_succ]
        refine ⟨⟨by trivial, mj_isk_mk _ _⟩, by decide, fun I1 J1 h1 => ?_⟩
        obtain ⟨rfl, rfl⟩ := h1
        have nxt : ∀ (D2 : Nat → Nat → Int32) (J2 : Nat → Nat → Int64), VM D2 = (gustS g j (gustN g j (askV n C R (VM B) (B 106 48) (-1), Jb 91 32))).1 → J2 91 32 = (gustS g j (gustN g j (askV n C R (VM B) (B 106 48) (-1), Jb 91 32))).2 → fr (fun c k => c = 106 ∧ k < 48) D D2 → mj_G Ω l false mX12_blow 60 0 0 (fun r' M' => ∃ (I2 : Nat → Nat → Int32) (J2 : Nat → Nat → Int64), r' = some (.int (A 39 9)) ∧ M' = mk I2 J2 ∧ Rel I2) 0 0 36 ([some (.ref 91), some (.int (nI k)), some (.long y), none, some (.int (nI i)), some (.int (nI (j + 1)))], [], mk D2 J2) := fun D2 J2 u1 u2 u3 => hkk (D2, J2) ⟨u1, u2, fr_tr hfr u3⟩
        unfold gustS at nxt
        generalize (gustN g j (askV n C R (VM B) (B 106 48) (-1), Jb 91 32)) = q at *
        rw [gE, hJ]
        by_cases z : drw (nxJ q.2) 100 < g
        · rw [if_pos z]
          simp only [cif_t z] at nxt
          refine ⟨⟨by trivial, mj_isk_mk _ _⟩, by decide, fun I1 J1 h1 => ?_⟩
          obtain ⟨rfl, rfl⟩ := h1
          rw [ul_s, ul_u]
          have sp : spB (VM D) j := by rw [hV]; exact ⟨spj.2.2.1, spj.2.2.2.1.2⟩
          by_cases z2 : drw (nxJ (nxJ q.2)) 2 = 0
          · rw [if_pos z2]
            rw [cif_t z2] at nxt
            exact ⟨⟨by trivial, mj_isk_mk _ _⟩, j, rfl, ⟨oE, by rw [nE]; exact hj, sp, Or.inl rfl⟩, fun D2 h2 => nxt D2 _ (by rw [h2.1, hV]) ul_s h2.2⟩
          · rw [if_neg z2]
            rw [cif_f z2] at nxt
            exact ⟨⟨by trivial, mj_isk_mk _ _⟩, j, rfl, ⟨oE, by rw [nE]; exact hj, sp, Or.inr (Or.inr rfl)⟩, fun D2 h2 => nxt D2 _ (by rw [h2.1, hV]) ul_s h2.2⟩
        · rw [if_neg z]
          simp only [cif_f z] at nxt
          exact nxt D _ hV ul_s fr_rf
      · obtain ⟨D, Jd⟩ := q
        obtain ⟨hV, hJ, hfr⟩ := hQ
        dsimp only at hV hJ hfr ⊢
        obtain ⟨oE, nE, tE⟩ := mM_fr hfr (by (try dsimp only); omega) oD
        rw [nD] at nE tE
        have gn := gO n
        have c1 : lv7 (D 104) = C := by rw [lv7_fr (fun k => hfr 104 k (by (try dsimp only); omega)), lv7_fr (fun k => f4 104 k (by (try dsimp only); omega))]; exact e4
        have s1 : D 106 48 = B 106 48 := by rw [hfr 106 48 (by (try dsimp only); omega), f4 106 48 (by (try dsimp only); omega)]; exact e6
        have h7 : ∀ b, b < n → D 107 b = shV n (VM B) b ∧ D 108 b = VM B 1 b := fun b hb => by rw [hfr 107 b (by (try dsimp only); omega), hfr 108 b (by (try dsimp only); omega)]; exact f2 b hb
        refine bX12_blow_36 (Nat.le_of_ble_eq_true rfl) (nI k) (nI i) (nI n) y D Jd ?_
        rw [tE, if_neg Int32.lt_irrefl]
        refine ⟨⟨by trivial, mj_isk_mk _ _⟩, ⟨oE, by rw [c1]; exact rl.2.2.2.2.1.1, fun b hb => ?_, fun b hb => ?_⟩, fun E hE => ?_⟩
        · rw [nE] at hb; rw [(h7 b hb).1]; exact shV_or _ _ _
        · rw [nE] at hb; rw [hV]; have := gn b hb; exact ⟨this.2.2.1, this.2.2.2.1.2⟩
        obtain ⟨u1, u2, u3⟩ := hE
        rw [nE, c1, s1, hV, moveV_c (Sh' := shV n (VM B)) (B' := VM B 1) (fun b hb => (h7 b hb).1) (fun b hb => (h7 b hb).2)] at u1
        rw [s1] at u2
        rw [jn_succ]
        have f4' : fr paM B1 E := fr_tr (fr_tr (fr_mo f4 (fun c k w => by unfold paM; omega)) (fr_mo hfr (fun c k w => by unfold paM; omega))) (fr_mo u3 (fun c k w => by unfold paM; omega))
        have u26 : E 91 26 = 0 := by rw [u3 91 26 (by (try dsimp only); omega), hfr 91 26 (by (try dsimp only); omega)]; exact f3
        exact hk (E, Jd) ⟨rlI_up rl b2 hr u1 (blP_ok (R := R) (g := g) hn8 _ _ (Jb 91 32) rl.2.2.2.2.1 hs) u2 u26 (by omega) f4', ⟨(B, Jb 91 32), rh, B1, a, b1, b2, hr, by show (VM E, Jd 91 32) = _; rw [u1, hJ]; rfl, u2, u26, f4'⟩⟩
    · obtain ⟨B, Jb⟩ := p
      obtain ⟨rl, rh⟩ := hI
      dsimp only at rl rh ⊢
      refine bX12_blow_18 (Nat.le_of_ble_eq_true rfl) (nI k) (nI k) y B Jb ?_
      rw [if_neg Int32.lt_irrefl]
      obtain ⟨j1, -, -, -, -⟩ := hyb_chain q0 (blP_ok hn8) k I A A B y _ _ ch rh (by rw [hyb_a lo]; exact h) hnn hCC (by omega)
      have hi := rlF_hi rl.2.2.2.2.2.2.2.2.2
      rw [hyb_b hi] at j1
      have j4 := j1.2.2.1.2.2.2.1
      rw [hi 39 9 (by omega)] at j4
      exact ⟨B, Jb, by rw [j4], rfl, j1⟩
