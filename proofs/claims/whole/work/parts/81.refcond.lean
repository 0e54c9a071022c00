/-! ===== the reference's conditions (by program, wip/whole/p81.py) ===== -/
theorem lpP_pre {t : Nat} {τ : Nat → Int32} {op : Int32 → Int32} {A : Nat → PR} : ∀ (f p : Nat) (xs ys : List Int32), lpP t τ op A f p (xs ++ ys) = pgo (lpP t τ op A f p ys) (fun p1 zs => .ok (p1, xs ++ zs)) := by
  intro f
  induction f with
  | zero => intro p xs ys; rfl
  | succ f ih =>
    intro p xs ys
    rw [lpP, lpP]
    by_cases q : op (nsg t τ p) = 0
    · rw [if_pos q, if_pos q]; rfl
    · rw [if_neg q, if_neg q]
      cases hA : A (skp t τ p + 1) with
      | error e => rfl
      | ok r =>
        show lpP t τ op A f r.1 (xs ++ ys ++ r.2 ++ [op (nsg t τ p)]) = pgo (lpP t τ op A f r.1 (ys ++ r.2 ++ [op (nsg t τ p)])) _
        rw [← ih, List.append_assoc xs, List.append_assoc xs]
theorem gnQ_o {t : Nat} {τ : Nat → Int32} {op : Int32 → Int32} {F A : Nat → PR} {p : Nat} {y : Nat × List Int32} (h : F p = .ok y) : gnQ t τ op F A p = pgo (lpP t τ op A (t + 1 - y.1) y.1 []) (fun p1 zs => .ok (p1, y.2 ++ zs)) := by
  unfold gnQ
  rw [pgo_o h, ← lpP_pre, List.append_nil]
theorem CdM_tr {I A B C : Nat → Nat → Int32} {x n : Nat} {xs ys : List Int32} (h : CdM A x n xs I) (h2 : CdM B x (n + xs.length) ys A) : CdM B x n (xs ++ ys) I := CdM_app h h2
/-- a piece, then a loop -/
theorem seqM {t w n x z p : Nat} {τ : Nat → Int32} {op : Int32 → Int32} {F A : Nat → PR} {I E B : Nat → Nat → Int32} (hr : wrM (F p) t w n x z I E) (h1 : ¬ E 91 4 = -1 → B = E) (h2 : ∀ y, F p = .ok y → E 91 4 = -1 → wrM (lpP t τ op A (t + 1 - y.1) y.1 []) t w (n + y.2.length) x z E B) : wrM (gnQ t τ op F A p) t w n x z I B := by
  obtain ⟨r1, r2, r3⟩ := hr
  cases hF : F p with
  | error e =>
    obtain ⟨e3, e4⟩ := r2 e hF
    have hB : B = E := h1 (by rw [e4.1]; exact nI_n1 e3)
    subst hB
    refine ⟨r1, fun e' h' => ?_, fun q h' => ?_⟩
    · unfold gnQ at h'; rw [pgo_e hF] at h'; cases h'; exact ⟨e3, e4⟩
    · unfold gnQ at h'; rw [pgo_e hF] at h'; cases h'
  | ok y =>
    obtain ⟨g3, g4, g5, gC⟩ := r3 y hF
    obtain ⟨s1, s2, s3⟩ := h2 y hF g4
    rw [gnQ_o hF]
    refine ⟨fr_tr r1 s1, fun e' h' => ?_, fun q h' => ?_⟩
    · rcases pgo_err h' with h' | ⟨q1, h', g⟩
      · exact s2 e' h'
      · cases g
    · obtain ⟨q1, hq, g⟩ := pgo_ok h'
      obtain ⟨u3, u4, u5, uC⟩ := s3 q1 hq
      cases g
      exact ⟨u3, u4, u5, CdM_app gC uC⟩
theorem andM {t w n x z p : Nat} {τ : Nat → Int32} {op : Int32 → Int32} {F : Nat → PR} {A1 : Nat → (Nat → Int32) → Nat → Nat → PR} {C E : Nat → Nat → Int32} {J : Nat → Nat → Int64} {P : (Nat → Nat → Int32) → Prop} (hw : w ≤ 6) (hT : TM C t τ) (h14 : C 91 14 = nI x) (hx : x ≤ 4) (hF : pOk t F) (hp : p ≤ t) (hn : n + z ≤ p) (hE : wrM (F p) t w n x z C E) (hP : ∀ B, wrM (gnQ t τ op F (A1 t τ w) p) t w n x z C B → P B) :
    ((91 = 91 ∧ mj_isk (mk E J)) ∧ ∃ t1 : Nat, ∃ τ1 : Nat → Int32, ∃ p1 : Nat, ∃ n2 : Nat, ∃ x1 : Nat, ∃ z2 : Nat, (w ≤ 6 ∧ (E 91 4 = -1 → prM E t1 τ1 p1 n2 w x1 z2)) ∧ ∀ B : Nat → Nat → Int32, ((¬ E 91 4 = -1 → B = E) ∧ (E 91 4 = -1 → wrM (lpP t1 τ1 op (A1 t1 τ1 w) (t1 + 1 - p1) p1 []) t1 w n2 x1 z2 E B)) → P B) := by
  cases hF1 : F p with
  | error e =>
    obtain ⟨e3, e4⟩ := hE.2.1 e hF1
    have hne : ¬ E 91 4 = -1 := by rw [e4.1]; exact nI_n1 e3
    exact ⟨⟨by trivial, mj_isk_mk _ _⟩, 0, τ, 0, 0, 0, 0, ⟨hw, fun q => absurd q hne⟩, fun B hB => hP B (seqM hE hB.1 (fun y hy q => absurd q hne))⟩
  | ok y =>
    obtain ⟨g3, g4, g5, gC⟩ := hE.2.2 y hF1
    have yb := (hF p hp).2 y hF1
    exact ⟨⟨by trivial, mj_isk_mk _ _⟩, t, τ, y.1, n + y.2.length, x, z, ⟨hw, fun _ => ⟨TM_m hT hE.1, g3, yb.2.1, g4, g5, by rw [mF_14 hE.1]; exact h14, hx, gC.1, by omega⟩⟩, fun B hB => hP B (seqM hE hB.1 (fun y' hy' q => by
      rw [hF1] at hy'
      cases hy'
      exact hB.2 q))⟩
/-- a step put behind a piece -/
theorem putM {t w n x z : Nat} {r : PR} {c v s : Int32} {C E : Nat → Nat → Int32} {J : Nat → Nat → Int64} {P : (Nat → Nat → Int32) → Prop} (ht : t ≤ 240) (h14 : E 91 14 = nI x) (hx : x ≤ 4) (hb : ∀ y, r = .ok y → n + y.2.length < 520) (hE : wrM r t w n x (z + 1) C E) (hcm : cmR c v s) (hP : ∀ B, B 91 5 = E 91 5 → wrM (pgo r (fun p ys => .ok (p, ys ++ [s]))) t w n x z C B → P B) :
    ((91 = 91 ∧ mj_isk (mk E J)) ∧ ∃ x1 : Nat, ∃ n1 : Nat, (E 91 14 = nI x1 ∧ x1 ≤ 4 ∧ E 95 x1 = nI n1 ∧ n1 < 520) ∧ ∀ I1 : Nat → Nat → Int32, (I1 = mj_ui (mj_ui (mj_ui E 93 (520 * x1 + n1) c) 94 (520 * x1 + n1) v) 95 x1 (nI (n1 + 1))) → P I1) := by
  obtain ⟨r1, r2, r3⟩ := hE
  cases hr : r with
  | error e =>
    obtain ⟨e3, g4, a, c', g3, ga, gc, gz⟩ := r2 e hr
    refine ⟨⟨by trivial, mj_isk_mk _ _⟩, x, c', ⟨h14, hx, gc, by omega⟩, fun K hK => hP K (by rw [hK, ui_c (by decide), ui_c (by decide), ui_c (by decide)]) ?_⟩
    refine ⟨by rw [hK]; exact fr_put r1 (by omega), fun e' h' => ?_, fun q h' => ?_⟩
    · rw [pgo_e hr] at h'
      cases h'
      exact ⟨e3, by rw [hK, ui_c (by decide), ui_c (by decide), ui_c (by decide)]; exact g4, a, c' + 1, by rw [hK, ui_c (by decide), ui_c (by decide), ui_c (by decide)]; exact g3, ga, by rw [hK, ui_s], by omega⟩
    · rw [pgo_e hr] at h'
      cases h'
  | ok y =>
    obtain ⟨g3, g4, g5, gC⟩ := r3 y hr
    refine ⟨⟨by trivial, mj_isk_mk _ _⟩, x, n + y.2.length, ⟨h14, hx, gC.1, hb y hr⟩, fun K hK => hP K (by rw [hK, ui_c (by decide), ui_c (by decide), ui_c (by decide)]) ?_⟩
    refine ⟨by rw [hK]; exact fr_put r1 (hb y hr), fun e' h' => ?_, fun q h' => ?_⟩
    · rw [pgo_o hr] at h'
      cases h'
    · rw [pgo_o hr] at h'
      cases h'
      exact ⟨by rw [hK, ui_c (by decide), ui_c (by decide), ui_c (by decide)]; exact g3, by rw [hK, ui_c (by decide), ui_c (by decide), ui_c (by decide)]; exact g4, by rw [hK, ui_c (by decide), ui_c (by decide), ui_c (by decide)]; exact g5, by rw [hK]; exact CdM_up gC rfl hcm⟩
theorem wrM_d {t w n x z : Nat} {r : PR} {I A E : Nat → Nat → Int32} (h : wrM r t w n x z A E) (e : fr dFr I A) : wrM r t w n x z I E := ⟨fr_tr (d_mF e) h.1, h.2.1, fun q hq => by
  obtain ⟨g3, g4, g5, gC⟩ := h.2.2 q hq
  exact ⟨g3, g4, g5, CdM_b gC e⟩⟩
theorem cm_of {c x : Int32} (h : (0 ≤ c.toInt ∧ c.toInt ≤ 11) ∧ x.toInt = encX c.toInt 0 ∧ ¬ c.toInt = 0 ∧ ¬ c.toInt = 1) : cmR c 0 x := ⟨h.1, h.2.1, fun q => absurd q h.2.2.1, fun q => absurd q h.2.2.2⟩
def tX12_compare (w : Nat) : mj_PT := fun as M Φ => match as with
  | [.ref this] => ((this = 91 ∧ mj_isk M) ∧ (∃ t : Nat, (∃ τ : Nat → Int32, (∃ p : Nat, (∃ n : Nat, (∃ x : Nat, (∃ z : Nat, ((w ≤ 6 ∧ prM M.2.2.1 t τ p n w x z) ∧ (∀ I1 : Nat → Nat → Int32, (wrM (cmW t τ w p) t w n x z M.2.2.1 I1) → Φ none (M.1, M.2.1, I1, M.2.2.2))))))))))
  | _ => False
def tX12_unit (w : Nat) : mj_PT := fun as M Φ => match as with
  | [.ref this] => ((this = 91 ∧ mj_isk M) ∧ (∃ t : Nat, (∃ τ : Nat → Int32, (∃ p : Nat, (∃ n : Nat, (∃ x : Nat, (∃ z : Nat, ((w ≤ 6 ∧ prM M.2.2.1 t τ p n w x z) ∧ (∀ I1 : Nat → Nat → Int32, (wrM (unW t τ w p) t w n x z M.2.2.1 I1) → Φ none (M.1, M.2.1, I1, M.2.2.2))))))))))
  | _ => False
def tX12_goOnAnd (w : Nat) : mj_PT := fun as M Φ => match as with
  | [.ref this] => ((this = 91 ∧ mj_isk M) ∧ (∃ t : Nat, (∃ τ : Nat → Int32, (∃ p : Nat, (∃ n : Nat, (∃ x : Nat, (∃ z : Nat, ((w ≤ 6 ∧ (M.2.2.1 91 4 = -1 → prM M.2.2.1 t τ p n w x z)) ∧ (∀ I1 : Nat → Nat → Int32, ((¬ M.2.2.1 91 4 = -1 → I1 = M.2.2.1) ∧ (M.2.2.1 91 4 = -1 → wrM (lpP t τ opA (unW t τ w) (t + 1 - p) p []) t w n x z M.2.2.1 I1)) → Φ none (M.1, M.2.1, I1, M.2.2.2))))))))))
  | _ => False
def tX12_goOnOr (w : Nat) : mj_PT := fun as M Φ => match as with
  | [.ref this] => ((this = 91 ∧ mj_isk M) ∧ (∃ t : Nat, (∃ τ : Nat → Int32, (∃ p : Nat, (∃ n : Nat, (∃ x : Nat, (∃ z : Nat, ((w ≤ 6 ∧ (M.2.2.1 91 4 = -1 → prM M.2.2.1 t τ p n w x z)) ∧ (∀ I1 : Nat → Nat → Int32, ((¬ M.2.2.1 91 4 = -1 → I1 = M.2.2.1) ∧ (M.2.2.1 91 4 = -1 → wrM (lpP t τ opO (trW t τ w) (t + 1 - p) p []) t w n x z M.2.2.1 I1)) → Φ none (M.1, M.2.1, I1, M.2.2.2))))))))))
  | _ => False
def tX12_condition (w : Nat) : mj_PT := fun as M Φ => match as with
  | [.ref this] => ((this = 91 ∧ mj_isk M) ∧ (∃ t : Nat, (∃ τ : Nat → Int32, (∃ p : Nat, (∃ n : Nat, (∃ x : Nat, (∃ z : Nat, ((w ≤ 6 ∧ prM M.2.2.1 t τ p n w x z) ∧ (∀ I1 : Nat → Nat → Int32, (wrM (cdW t τ w p) t w n x z M.2.2.1 I1) → Φ none (M.1, M.2.1, I1, M.2.2.2))))))))))
  | _ => False
def csX12_compare (w : Nat) : List (Nat × Nat × Nat × mj_PT) := [(125, 0, 1, mj_rcv 12 tX12_badS), (128, 0, 1, mj_rcv 12 tX12_look), (138, 0, 3, mj_rcv 12 tX12_putS), (149, 0, 1, mj_rcv 12 (tX12_sum w)), (162, 1, 1, tX12_isSignS)]
theorem csX12_compare_ok {w : Nat} (hw : w ≤ 6) (h_X12_sum : mj_Sd mX12_sum (5 + 3 * (7 - w) + 2) (tX12_sum w)) : mj_Cs mX12_compare (8 + 3 * (7 - w) + 0) (csX12_compare w) := (mj_CsV (D' := 1) (ci := 12) (q := (RX12, TX12, 45)) sdX12_badS (by omega) fX12_bad rfl rfl iX12_bad vX12_bad (by decide +kernel) l12_125 (mj_CsV (D' := 2) (ci := 12) (q := (RX12, TX12, 45)) sdX12_look (by omega) fX12_look rfl rfl iX12_look vX12_look (by decide +kernel) l12_128 (mj_CsV (D' := 1) (ci := 12) (q := (RX12, TX12, 45)) sdX12_putS (by omega) fX12_put rfl rfl iX12_put vX12_put (by decide +kernel) l12_138 (mj_CsV (D' := (5 + 3 * (7 - w) + 2)) (ci := 12) (q := (RX12, TX12, 45)) h_X12_sum (by omega) fX12_sum rfl rfl iX12_sum vX12_sum (by decide +kernel) l12_149 (mj_CsS (D' := 1) sdX12_isSignS (by omega) fX12_isSign sX12_isSign (by decide +kernel) l12_162 mj_Cs0)))))
def cutX12_compare : List (Nat × List Bool) := []
set_option maxRecDepth 100000 in
set_option maxHeartbeats 4000000 in
theorem inX12_compare {w : Nat} (hcs : mj_Cs mX12_compare (8 + 3 * (7 - w) + 0) (csX12_compare w)) {Ω : mj_Om} {l : Launch} {d : Nat} {Φ : Option Value → mj_M → Prop} (hd : (8 + 3 * (7 - w) + 0) ≤ d) (I : Nat → Nat → Int32) (J : Nat → Nat → Int64)
    (h : ((if (I 91 4) = (-1 : Int32) then ((91 = 91 ∧ mj_isk (mk I J)) ∧ (∃ t2016 : Nat, (∃ τ2017 : Nat → Int32, (∃ p2018 : Nat, ((TM I t2016 τ2017 ∧ I 91 3 = nI p2018 ∧ p2018 ≤ 300) ∧ (∀ I2019 : Nat → Nat → Int32, (I2019 91 3 = nI (skp t2016 τ2017 p2018) ∧ fr mFr I I2019) → ((mj_isk (mk I2019 J)) ∧ (if (b2i (¬ cmO (nsg t2016 τ2017 p2018) = 0)) = (0 : Int32) then ((91 = 91 ∧ mj_isk (mk I2019 J)) ∧ (∀ I2023 : Nat → Nat → Int32, (I2023 = mj_ui I2019 91 4 (bdV I2019)) → (Φ none (mk I2023 J)))) else ((91 = 91 ∧ mj_isk (mk (mj_ui I2019 91 3 ((I2019 91 3) + (1 : Int32))) J)) ∧ (∃ t2025 : Nat, (∃ τ2026 : Nat → Int32, (∃ p2027 : Nat, (∃ n2028 : Nat, (∃ x2029 : Nat, (∃ z2030 : Nat, ((w ≤ 6 ∧ prM (mj_ui I2019 91 3 ((I2019 91 3) + (1 : Int32))) t2025 τ2026 p2027 n2028 w x2029 z2030) ∧ (∀ I2031 : Nat → Nat → Int32, (wrM (smW t2025 τ2026 w p2027) t2025 w n2028 x2029 z2030 (mj_ui I2019 91 3 ((I2019 91 3) + (1 : Int32))) I2031) → (if (nsg t2016 τ2017 p2018) = (61 : Int32) then ((91 = 91 ∧ mj_isk (mk I2031 J)) ∧ (∃ x2032 : Nat, (∃ n2033 : Nat, ((I2031 91 14 = nI x2032 ∧ x2032 ≤ 4 ∧ I2031 95 x2032 = nI n2033 ∧ n2033 < 520) ∧ (∀ I2034 : Nat → Nat → Int32, (I2034 = mj_ui (mj_ui (mj_ui I2031 93 (520 * x2032 + n2033) (6 : Int32)) 94 (520 * x2032 + n2033) (0 : Int32)) 95 x2032 (nI (n2033 + 1))) → (Φ none (mk I2034 J))))))) else (if (nsg t2016 τ2017 p2018) = (60 : Int32) then ((91 = 91 ∧ mj_isk (mk I2031 J)) ∧ (∃ x2036 : Nat, (∃ n2037 : Nat, ((I2031 91 14 = nI x2036 ∧ x2036 ≤ 4 ∧ I2031 95 x2036 = nI n2037 ∧ n2037 < 520) ∧ (∀ I2038 : Nat → Nat → Int32, (I2038 = mj_ui (mj_ui (mj_ui I2031 93 (520 * x2036 + n2037) (7 : Int32)) 94 (520 * x2036 + n2037) (0 : Int32)) 95 x2036 (nI (n2037 + 1))) → (Φ none (mk I2038 J))))))) else ((91 = 91 ∧ mj_isk (mk I2031 J)) ∧ (∃ x2040 : Nat, (∃ n2041 : Nat, ((I2031 91 14 = nI x2040 ∧ x2040 ≤ 4 ∧ I2031 95 x2040 = nI n2041 ∧ n2041 < 520) ∧ (∀ I2042 : Nat → Nat → Int32, (I2042 = mj_ui (mj_ui (mj_ui I2031 93 (520 * x2040 + n2041) (8 : Int32)) 94 (520 * x2040 + n2041) (0 : Int32)) 95 x2040 (nI (n2041 + 1))) → (Φ none (mk I2042 J)))))))))))))))))))))))))) else ((mj_isk (mk I J)) ∧ (if (b2i (¬ cmO (-1 : Int32) = 0)) = (0 : Int32) then ((91 = 91 ∧ mj_isk (mk I J)) ∧ (∀ I2046 : Nat → Nat → Int32, (I2046 = mj_ui I 91 4 (bdV I)) → (Φ none (mk I2046 J)))) else ((91 = 91 ∧ mj_isk (mk (mj_ui I 91 3 ((I 91 3) + (1 : Int32))) J)) ∧ (∃ t2048 : Nat, (∃ τ2049 : Nat → Int32, (∃ p2050 : Nat, (∃ n2051 : Nat, (∃ x2052 : Nat, (∃ z2053 : Nat, ((w ≤ 6 ∧ prM (mj_ui I 91 3 ((I 91 3) + (1 : Int32))) t2048 τ2049 p2050 n2051 w x2052 z2053) ∧ (∀ I2054 : Nat → Nat → Int32, (wrM (smW t2048 τ2049 w p2050) t2048 w n2051 x2052 z2053 (mj_ui I 91 3 ((I 91 3) + (1 : Int32))) I2054) → ((91 = 91 ∧ mj_isk (mk I2054 J)) ∧ (∃ x2055 : Nat, (∃ n2056 : Nat, ((I2054 91 14 = nI x2055 ∧ x2055 ≤ 4 ∧ I2054 95 x2055 = nI n2056 ∧ n2056 < 520) ∧ (∀ I2057 : Nat → Nat → Int32, (I2057 = mj_ui (mj_ui (mj_ui I2054 93 (520 * x2055 + n2056) (8 : Int32)) 94 (520 * x2055 + n2056) (0 : Int32)) 95 x2055 (nI (n2056 + 1))) → (Φ none (mk I2057 J))))))))))))))))))))) :
    mj_Met Ω l false mX12_compare d 0 0 [.ref 91] (mk I J) Φ := mj_entry (by decide) rfl (fun h => (by cases h)) (Nat.le_of_ble_eq_true rfl) (mj_blk (μ := mX12_compare) (P := pX12_compare) (cut := cutX12_compare) (cs := csX12_compare w) dX12_compare hcs hd 39 0 _ h)
set_option maxHeartbeats 16000000 in
theorem mnX12_compare {w : Nat} (hcs : mj_Cs mX12_compare (8 + 3 * (7 - w) + 0) (csX12_compare w)) {Ω : mj_Om} {l : Launch} {d : Nat} {Φ : Option Value → mj_M → Prop} (hd : (8 + 3 * (7 - w) + 0) ≤ d) (t : Nat) (τ : Nat → Int32) (p : Nat) (n : Nat) (x : Nat) (z : Nat) (I : Nat → Nat → Int32) (J : Nat → Nat → Int64) (hp : w ≤ 6 ∧ prM I t τ p n w x z) (h : ∀ I1 : Nat → Nat → Int32, (wrM (cmW t τ w p) t w n x z I I1) → Φ none (mk I1 J)) : mj_Met Ω l false mX12_compare d 0 0 [.ref 91] (mk I J) Φ := by
  refine inX12_compare hcs hd I J ?_
  obtain ⟨hw, hT, h3, hpt, h4, h5, h14, hx, h95, hn⟩ := hp
  have ht := hT.1.1
  have k1 := skp_le (τ := τ) hpt
  have k2 := skp_ge (t := t) (τ := τ) (p := p)
  rw [if_pos h4]
  refine ⟨⟨by trivial, mj_isk_mk _ _⟩, t, τ, p, ⟨hT, h3, by omega⟩, fun A hA => ?_⟩
  obtain ⟨a1, a2⟩ := hA
  have dA := m_dF a2
  have TA := TM_d hT dA
  have a4 : A 91 4 = -1 := by rw [a2 91 4 (by unfold mFr; omega)]; exact h4
  have a5 : A 91 5 = nI w := by rw [a2 91 5 (by unfold mFr; omega)]; exact h5
  have a14 : A 91 14 = nI x := by rw [d_14 dA]; exact h14
  have a95 : A 95 x = nI n := by rw [d_95 dA]; exact h95
  refine ⟨mj_isk_mk _ _, ?_⟩
  by_cases zc : cmO (nsg t τ p) = 0
  · rw [if_pos (by rw [b2i_e0]; exact fun u => u zc)]
    refine ⟨⟨by trivial, mj_isk_mk _ _⟩, fun B hB => ?_⟩
    have hb : bdV A = nI (skp t τ p) := by unfold bdV; rw [if_pos a4, a1]
    rw [hb] at hB
    exact oM_E h (e := skp t τ p) (a := skp t τ p) (c := n) (by unfold cmW; rw [if_pos zc]) (by omega) (by rw [hB]; exact d_mF (fr_ui dA ⟨rfl, by omega⟩)) (by rw [hB, ui_s]) (by rw [hB, ui_k (by decide)]; exact a1) (by omega) (by rw [hB, ui_c (by decide)]; exact a95) (by omega)
  rw [if_neg (by rw [b2i_e0]; exact fun u => u zc), a1, jn_succ]
  have hlt : skp t τ p < t := nsg_p rfl (fun w => zc (by rw [w]; decide))
  have dB : fr dFr I (mj_ui A 91 3 (nI (skp t τ p + 1))) := fr_ui dA ⟨rfl, by omega⟩
  refine ⟨⟨by trivial, mj_isk_mk _ _⟩, t, τ, skp t τ p + 1, n, x, z + 1, ⟨hw, TM_d hT dB, ui_s, hlt, by rw [ui_k (by decide)]; exact a4, by rw [ui_k (by decide)]; exact a5, by rw [ui_k (by decide)]; exact a14, hx, by rw [ui_c (by decide)]; exact a95, by omega⟩, fun E hE => ?_⟩
  have hE' := wrM_d hE dB
  have e14 : E 91 14 = nI x := by rw [mF_14 hE'.1]; exact h14
  have eC : cmW t τ w p = pgo (smW t τ w (skp t τ p + 1)) (fun p1 xs => .ok (p1, xs ++ [cmO (nsg t τ p)])) := by unfold cmW; rw [if_neg zc]
  have sb : ∀ y, smW t τ w (skp t τ p + 1) = .ok y → n + y.2.length < 520 := fun y hy => by
    have := (pOk_smW (τ := τ) (w := w) (skp t τ p + 1) hlt).2 y hy
    omega
  have fin : ∀ (B : Nat → Nat → Int32), B 91 5 = E 91 5 → wrM (pgo (smW t τ w (skp t τ p + 1)) (fun p1 xs => .ok (p1, xs ++ [cmO (nsg t τ p)]))) t w n x z I B → Φ none (mk B J) := fun B _ hB => h B (by rw [eC]; exact hB)
  by_cases s1 : nsg t τ p = 61
  · rw [if_pos s1]
    exact putM ht e14 hx sb hE' (cm_of (by rw [s1]; decide)) fin
  rw [if_neg s1]
  by_cases s2 : nsg t τ p = 60
  · rw [if_pos s2]
    exact putM ht e14 hx sb hE' (cm_of (by rw [s2]; decide)) fin
  rw [if_neg s2]
  have s3 : nsg t τ p = 62 := Classical.byContradiction (fun y => zc (by unfold cmO; rw [if_neg s2, if_neg s1, if_neg y]))
  exact putM ht e14 hx sb hE' (cm_of (by rw [s3]; decide)) fin
theorem sdX12_compare {w : Nat} (hcs : mj_Cs mX12_compare (8 + 3 * (7 - w) + 0) (csX12_compare w)) : mj_Sd mX12_compare (8 + 3 * (7 - w) + 0) (tX12_compare w) := by
  intro Ω l d hd as M Φ h
  unfold tX12_compare at h
  split at h
  · rename_i z_this
    obtain ⟨⟨rfl, hM⟩, t, τ, p, n, x, z, hp, h⟩ := h
    rw [mj_isk_of hM]
    exact mnX12_compare hcs hd t τ p n x z _ _ hp (by
      rw [mj_isk_of hM] at h
      exact h)
  · exact h.elim
def csX12_unit (w : Nat) : List (Nat × Nat × Nat × mj_PT) := [(128, 0, 1, mj_rcv 12 tX12_look), (138, 0, 3, mj_rcv 12 tX12_putS), (146, 0, 1, mj_rcv 12 tX12_opensS), (149, 0, 1, mj_rcv 12 (tX12_sum w)), (152, 0, 2, mj_rcv 12 tX12_closes), (165, 0, 1, mj_rcv 12 (tX12_unit (w + 1))), (168, 0, 1, mj_rcv 12 (tX12_condition (w + 1))), (171, 0, 1, mj_rcv 12 (tX12_compare w))]
theorem csX12_unit_ok {w : Nat} (hw : w ≤ 6) (h_X12_sum : mj_Sd mX12_sum (5 + 3 * (7 - w) + 2) (tX12_sum w)) (h_X12_unit : mj_Sd mX12_unit (10 + 4 * (7 - (w + 1)) + 0) (tX12_unit (w + 1))) (h_X12_condition : mj_Sd mX12_condition (10 + 4 * (7 - (w + 1)) + 3) (tX12_condition (w + 1))) (h_X12_compare : mj_Sd mX12_compare (8 + 3 * (7 - w) + 0) (tX12_compare w)) : mj_Cs mX12_unit (10 + 4 * (7 - w) + 0) (csX12_unit w) := (mj_CsV (D' := 2) (ci := 12) (q := (RX12, TX12, 45)) sdX12_look (by omega) fX12_look rfl rfl iX12_look vX12_look (by decide +kernel) l12_128 (mj_CsV (D' := 1) (ci := 12) (q := (RX12, TX12, 45)) sdX12_putS (by omega) fX12_put rfl rfl iX12_put vX12_put (by decide +kernel) l12_138 (mj_CsV (D' := 2) (ci := 12) (q := (RX12, TX12, 45)) sdX12_opensS (by omega) fX12_opens rfl rfl iX12_opens vX12_opens (by decide +kernel) l12_146 (mj_CsV (D' := (5 + 3 * (7 - w) + 2)) (ci := 12) (q := (RX12, TX12, 45)) h_X12_sum (by omega) fX12_sum rfl rfl iX12_sum vX12_sum (by decide +kernel) l12_149 (mj_CsV (D' := 3) (ci := 12) (q := (RX12, TX12, 45)) sdX12_closes (by omega) fX12_closes rfl rfl iX12_closes vX12_closes (by decide +kernel) l12_152 (mj_CsV (D' := (10 + 4 * (7 - (w + 1)) + 0)) (ci := 12) (q := (RX12, TX12, 45)) h_X12_unit (by omega) fX12_unit rfl rfl iX12_unit vX12_unit (by decide +kernel) l12_165 (mj_CsV (D' := (10 + 4 * (7 - (w + 1)) + 3)) (ci := 12) (q := (RX12, TX12, 45)) h_X12_condition (by omega) fX12_condition rfl rfl iX12_condition vX12_condition (by decide +kernel) l12_168 (mj_CsV (D' := (8 + 3 * (7 - w) + 0)) (ci := 12) (q := (RX12, TX12, 45)) h_X12_compare (by omega) fX12_compare rfl rfl iX12_compare vX12_compare (by decide +kernel) l12_171 mj_Cs0))))))))
def cutX12_unit : List (Nat × List Bool) := []
set_option maxRecDepth 100000 in
set_option maxHeartbeats 4000000 in
theorem inX12_unit {w : Nat} (hcs : mj_Cs mX12_unit (10 + 4 * (7 - w) + 0) (csX12_unit w)) {Ω : mj_Om} {l : Launch} {d : Nat} {Φ : Option Value → mj_M → Prop} (hd : (10 + 4 * (7 - w) + 0) ≤ d) (I : Nat → Nat → Int32) (J : Nat → Nat → Int64)
    (h : (((91 = 91 ∧ mj_isk (mk I J)) ∧ (∃ t2109 : Nat, (∃ τ2110 : Nat → Int32, (∃ p2111 : Nat, ((TM I t2109 τ2110 ∧ I 91 3 = nI p2111 ∧ p2111 ≤ 300) ∧ (∀ I2112 : Nat → Nat → Int32, (I2112 91 3 = nI (skp t2109 τ2110 p2111) ∧ fr mFr I I2112) → (if (nsg t2109 τ2110 p2111) = (33 : Int32) then ((91 = 91 ∧ mj_isk (mk I2112 J)) ∧ (∃ p2114 : Nat, (∃ w2115 : Nat, ((I2112 91 4 = -1 ∧ I2112 91 3 = nI p2114 ∧ I2112 91 5 = nI w2115 ∧ w2115 ≤ 6) ∧ (∀ I2116 : Nat → Nat → Int32, (I2116 91 3 = nI (p2114 + 1) ∧ I2116 91 5 = nI (w2115 + 1) ∧ I2116 91 4 = (if w2115 < 6 then -1 else nI p2114) ∧ fr dFr I2112 I2116) → (if (I2116 91 4) = (-1 : Int32) then ((91 = 91 ∧ mj_isk (mk I2116 J)) ∧ (∃ t2118 : Nat, (∃ τ2119 : Nat → Int32, (∃ p2120 : Nat, (∃ n2121 : Nat, (∃ x2122 : Nat, (∃ z2123 : Nat, (((w + 1) ≤ 6 ∧ prM I2116 t2118 τ2119 p2120 n2121 (w + 1) x2122 z2123) ∧ (∀ I2124 : Nat → Nat → Int32, (wrM (unW t2118 τ2119 (w + 1) p2120) t2118 (w + 1) n2121 x2122 z2123 I2116 I2124) → ((91 = 91 ∧ mj_isk (mk I2124 J)) ∧ (∃ x2125 : Nat, (∃ n2126 : Nat, ((I2124 91 14 = nI x2125 ∧ x2125 ≤ 4 ∧ I2124 95 x2125 = nI n2126 ∧ n2126 < 520) ∧ (∀ I2127 : Nat → Nat → Int32, (I2127 = mj_ui (mj_ui (mj_ui I2124 93 (520 * x2125 + n2126) (9 : Int32)) 94 (520 * x2125 + n2126) (0 : Int32)) 95 x2125 (nI (n2126 + 1))) → (Φ none (mk (mj_ui I2127 91 5 ((I2127 91 5) - (1 : Int32))) J)))))))))))))))) else (Φ none (mk I2116 J)))))))) else (if (nsg t2109 τ2110 p2111) = (40 : Int32) then ((91 = 91 ∧ mj_isk (mk I2112 J)) ∧ (∃ p2129 : Nat, (∃ w2130 : Nat, ((I2112 91 4 = -1 ∧ I2112 91 3 = nI p2129 ∧ I2112 91 5 = nI w2130 ∧ w2130 ≤ 6) ∧ (∀ I2131 : Nat → Nat → Int32, (I2131 91 3 = nI (p2129 + 1) ∧ I2131 91 5 = nI (w2130 + 1) ∧ I2131 91 4 = (if w2130 < 6 then -1 else nI p2129) ∧ fr dFr I2112 I2131) → (if (I2131 91 4) = (-1 : Int32) then ((91 = 91 ∧ mj_isk (mk I2131 J)) ∧ (∃ t2133 : Nat, (∃ τ2134 : Nat → Int32, (∃ p2135 : Nat, (∃ n2136 : Nat, (∃ x2137 : Nat, (∃ z2138 : Nat, (((w + 1) ≤ 6 ∧ prM I2131 t2133 τ2134 p2135 n2136 (w + 1) x2137 z2138) ∧ (∀ I2139 : Nat → Nat → Int32, (wrM (cdW t2133 τ2134 (w + 1) p2135) t2133 (w + 1) n2136 x2137 z2138 I2131 I2139) → ((91 = 91 ∧ mj_isk (mk I2139 J)) ∧ (∃ t2140 : Nat, (∃ τ2141 : Nat → Int32, (∃ p2142 : Nat, ((TM I2139 t2140 τ2141 ∧ I2139 91 3 = nI p2142 ∧ p2142 ≤ 300) ∧ (∀ I2143 : Nat → Nat → Int32, (fr dFr I2139 I2143 ∧ (I2139 91 4 = -1 → I2143 91 3 = nI (skp t2140 τ2141 p2142 + 1) ∧ I2143 91 4 = (if nsg t2140 τ2141 p2142 = (41 : Int32) then -1 else nI (skp t2140 τ2141 p2142)) ∧ I2143 91 5 = I2139 91 5 - 1) ∧ (¬ I2139 91 4 = -1 → I2143 91 3 = nI (p2142 + 1) ∧ I2143 91 4 = I2139 91 4)) → (Φ none (mk I2143 J))))))))))))))))) else (Φ none (mk I2131 J)))))))) else ((91 = 91 ∧ mj_isk (mk I2112 J)) ∧ (∃ t2145 : Nat, (∃ τ2146 : Nat → Int32, (∃ p2147 : Nat, (∃ n2148 : Nat, (∃ x2149 : Nat, (∃ z2150 : Nat, ((w ≤ 6 ∧ prM I2112 t2145 τ2146 p2147 n2148 w x2149 z2150) ∧ (∀ I2151 : Nat → Nat → Int32, (wrM (smW t2145 τ2146 w p2147) t2145 w n2148 x2149 z2150 I2112 I2151) → (if (I2151 91 4) = (-1 : Int32) then ((91 = 91 ∧ mj_isk (mk I2151 J)) ∧ (∃ t2152 : Nat, (∃ τ2153 : Nat → Int32, (∃ p2154 : Nat, (∃ n2155 : Nat, (∃ x2156 : Nat, (∃ z2157 : Nat, ((w ≤ 6 ∧ prM I2151 t2152 τ2153 p2154 n2155 w x2156 z2157) ∧ (∀ I2158 : Nat → Nat → Int32, (wrM (cmW t2152 τ2153 w p2154) t2152 w n2155 x2156 z2157 I2151 I2158) → (Φ none (mk I2158 J))))))))))) else (Φ none (mk I2151 J)))))))))))))))))))))) :
    mj_Met Ω l false mX12_unit d 0 0 [.ref 91] (mk I J) Φ := mj_entry (by decide) rfl (fun h => (by cases h)) (Nat.le_of_ble_eq_true rfl) (mj_blk (μ := mX12_unit) (P := pX12_unit) (cut := cutX12_unit) (cs := csX12_unit w) dX12_unit hcs hd 50 0 _ h)
set_option maxHeartbeats 16000000 in
theorem mnX12_unit {w : Nat} (hcs : mj_Cs mX12_unit (10 + 4 * (7 - w) + 0) (csX12_unit w)) {Ω : mj_Om} {l : Launch} {d : Nat} {Φ : Option Value → mj_M → Prop} (hd : (10 + 4 * (7 - w) + 0) ≤ d) (t : Nat) (τ : Nat → Int32) (p : Nat) (n : Nat) (x : Nat) (z : Nat) (I : Nat → Nat → Int32) (J : Nat → Nat → Int64) (hp : w ≤ 6 ∧ prM I t τ p n w x z) (h : ∀ I1 : Nat → Nat → Int32, (wrM (unW t τ w p) t w n x z I I1) → Φ none (mk I1 J)) : mj_Met Ω l false mX12_unit d 0 0 [.ref 91] (mk I J) Φ := by
  refine inX12_unit hcs hd I J ?_
  obtain ⟨hw, hT, h3, hpt, h4, h5, h14, hx, h95, hn⟩ := hp
  have ht := hT.1.1
  have k1 := skp_le (τ := τ) hpt
  have k2 := skp_ge (t := t) (τ := τ) (p := p)
  refine ⟨⟨by trivial, mj_isk_mk _ _⟩, t, τ, p, ⟨hT, h3, by omega⟩, fun A hA => ?_⟩
  obtain ⟨a1, a2⟩ := hA
  have dA := m_dF a2
  have TA := TM_d hT dA
  have a4 : A 91 4 = -1 := by rw [a2 91 4 (by unfold mFr; omega)]; exact h4
  have a5 : A 91 5 = nI w := by rw [a2 91 5 (by unfold mFr; omega)]; exact h5
  have a14 : A 91 14 = nI x := by rw [d_14 dA]; exact h14
  have a95 : A 95 x = nI n := by rw [d_95 dA]; exact h95
  have opened : ∀ (B : Nat → Nat → Int32), ¬ w < 6 → B 91 3 = nI (skp t τ p + 1) → B 91 4 = (if w < 6 then -1 else nI (skp t τ p)) → fr dFr A B → unW t τ w p = .error (skp t τ p) → nsg t τ p = 33 ∨ nsg t τ p = 40 → Φ none (mk B J) := by
    intro B qw b3 b4 bd he hs
    have hlt : skp t τ p < t := by rcases hs with hs | hs <;> exact nsg_p hs (by decide)
    rw [if_neg qw] at b4
    exact oM_E h he (by omega) (d_mF (fr_tr dA bd)) b4 b3 (by omega) (by rw [d_95 bd]; exact a95) (by omega)
  by_cases q : nsg t τ p = 33
  · rw [if_pos q]
    have h3' : skp t τ p < t := nsg_p q (by decide)
    refine ⟨⟨by trivial, mj_isk_mk _ _⟩, skp t τ p, w, ⟨a4, a1, a5, hw⟩, fun B hB => ?_⟩
    obtain ⟨b3, b5, b4, bd⟩ := hB
    have dB : fr dFr I B := fr_tr dA bd
    by_cases qw : w < 6
    case neg =>
      have b4' := b4
      rw [if_neg qw] at b4
      rw [if_neg (by rw [b4]; exact nI_n1 (by omega))]
      exact opened B qw b3 b4' bd (by unfold unW unP; rw [if_pos q, lvU_6 qw]) (Or.inl q)
    rw [if_pos qw] at b4
    rw [if_pos b4]
    have eA : unW t τ w p = pgo (unW t τ (w + 1) (skp t τ p + 1)) (fun p1 xs => .ok (p1, xs ++ [20009])) := by
      show unP t τ w (lvU t τ (6 - w)) p = _
      unfold unP; rw [if_pos q, lvU_lt qw]
    refine ⟨⟨by trivial, mj_isk_mk _ _⟩, t, τ, skp t τ p + 1, n, x, z + 1, ⟨by omega, TM_d hT dB, b3, h3', b4, b5, by rw [d_14 dB]; exact h14, hx, by rw [d_95 dB]; exact h95, by omega⟩, fun E hE => ?_⟩
    have hE' := wrM_d hE dB
    refine putM (s := 20009) ht (by rw [mF_14 hE'.1]; exact h14) hx (fun y hy => ?_) hE' (cm_of (by decide)) (fun K k5 hK => ?_)
    · have := (pOk_unW (τ := τ) (w := w + 1) (skp t τ p + 1) h3').2 y hy
      omega
    · rw [← eA] at hK
      obtain ⟨r1, r2, r3⟩ := hK
      have dK : fr dFr K (mj_ui K 91 5 (K 91 5 - 1)) := fr_ui fr_rf ⟨rfl, by omega⟩
      cases hu : unW t τ w p with
      | error e =>
        obtain ⟨e3, g4, a, c', g3, ga, gc, gz⟩ := r2 e hu
        exact oM_E h hu e3 (fr_tr r1 (d_mF dK)) (by rw [ui_k (by decide)]; exact g4) (by rw [ui_k (by decide)]; exact g3) (by omega) (by rw [ui_c (by decide)]; exact gc) gz
      | ok y =>
        obtain ⟨g3, g4, g5, gC⟩ := r3 y hu
        refine oM_O h hu (fr_tr r1 (d_mF dK)) (by rw [ui_k (by decide)]; exact g3) (by rw [ui_k (by decide)]; exact g4) ?_ (CdM_d gC dK)
        rw [ui_s, g5, show (1 : Int32) = nI 1 from rfl, jn_sub (by omega), Nat.add_sub_cancel]
  rw [if_neg q]
  by_cases q2 : nsg t τ p = 40
  · rw [if_pos q2]
    have h3' : skp t τ p < t := nsg_p q2 (by decide)
    refine ⟨⟨by trivial, mj_isk_mk _ _⟩, skp t τ p, w, ⟨a4, a1, a5, hw⟩, fun B hB => ?_⟩
    obtain ⟨b3, b5, b4, bd⟩ := hB
    have dB : fr dFr I B := fr_tr dA bd
    by_cases qw : w < 6
    case neg =>
      have b4' := b4
      rw [if_neg qw] at b4
      rw [if_neg (by rw [b4]; exact nI_n1 (by omega))]
      exact opened B qw b3 b4' bd (by unfold unW unP; rw [if_neg q, if_pos q2, lvU_6 qw]) (Or.inr q2)
    rw [if_pos qw] at b4
    rw [if_pos b4]
    have eA : unW t τ w p = pgo (cdW t τ (w + 1) (skp t τ p + 1)) (fun p1 xs => if nsg t τ p1 = 41 then .ok (skp t τ p1 + 1, xs) else .error (skp t τ p1)) := by
      show unP t τ w (lvU t τ (6 - w)) p = _
      unfold unP; rw [if_neg q, if_pos q2, lvU_lt qw]
    refine ⟨⟨by trivial, mj_isk_mk _ _⟩, t, τ, skp t τ p + 1, n, x, z, ⟨by omega, TM_d hT dB, b3, h3', b4, b5, by rw [d_14 dB]; exact h14, hx, by rw [d_95 dB]; exact h95, by omega⟩, fun C hC => ?_⟩
    obtain ⟨c1, c2, c3⟩ := hC
    have frC : fr (mF x) I C := fr_tr (d_mF dB) c1
    cases hs : cdW t τ (w + 1) (skp t τ p + 1) with
    | error e =>
      obtain ⟨e3, g4, a, c, g3, ga, gc, gz⟩ := c2 e hs
      refine ⟨⟨by trivial, mj_isk_mk _ _⟩, t, τ, a, ⟨TM_m hT frC, g3, by omega⟩, fun D hD => ?_⟩
      obtain ⟨d1, -, d3⟩ := hD
      obtain ⟨j1, j2⟩ := d3 (by rw [g4]; exact nI_n1 e3)
      exact oM_E h (by rw [eA, pgo_e hs]) e3 (fr_tr frC (d_mF d1)) (by rw [j2]; exact g4) j1 (by omega) (by rw [d_95 d1]; exact gc) (by omega)
    | ok y =>
      obtain ⟨g3, g4, g5, gC⟩ := c3 y hs
      have yb := (pOk_cdW (τ := τ) (w := w + 1) (skp t τ p + 1) h3').2 y hs
      have k3 := skp_le (τ := τ) yb.2.1
      have k4 := skp_ge (t := t) (τ := τ) (p := y.1)
      refine ⟨⟨by trivial, mj_isk_mk _ _⟩, t, τ, y.1, ⟨TM_m hT frC, g3, by omega⟩, fun D hD => ?_⟩
      obtain ⟨d1, d2, -⟩ := hD
      obtain ⟨j3, j4, j5⟩ := d2 g4
      have gC' := CdM_b gC dB
      by_cases u : nsg t τ y.1 = 41
      · rw [if_pos u] at j4
        refine oM_O h (q := (skp t τ y.1 + 1, y.2)) (by rw [eA, pgo_o hs, if_pos u]) (fr_tr frC (d_mF d1)) j3 j4 ?_ (CdM_d gC' d1)
        rw [j5, g5, show (1 : Int32) = nI 1 from rfl, jn_sub (by omega), Nat.add_sub_cancel]
      · rw [if_neg u] at j4
        exact oM_E h (e := skp t τ y.1) (by rw [eA, pgo_o hs, if_neg u]) (by omega) (fr_tr frC (d_mF d1)) j4 j3 (by omega) (by rw [d_95 d1]; exact gC.1) (by omega)
  rw [if_neg q2]
  have eA : unW t τ w p = pgo (smW t τ w (skp t τ p)) (fun p1 xs => pgo (cmW t τ w p1) (fun p2 ys => .ok (p2, xs ++ ys))) := by
    show unP t τ w (lvU t τ (6 - w)) p = _
    unfold unP; rw [if_neg q, if_neg q2]
  refine ⟨⟨by trivial, mj_isk_mk _ _⟩, t, τ, skp t τ p, n, x, z, ⟨hw, TA, a1, k1, a4, a5, a14, hx, a95, by omega⟩, fun C hC => ?_⟩
  have hC' := wrM_d hC dA
  obtain ⟨c1, c2, c3⟩ := hC'
  cases hs : smW t τ w (skp t τ p) with
  | error e =>
    obtain ⟨e3, g4, a, c, g3, ga, gc, gz⟩ := c2 e hs
    rw [if_neg (by rw [g4]; exact nI_n1 e3)]
    exact oM_E h (by rw [eA, pgo_e hs]) e3 c1 g4 g3 ga gc gz
  | ok y =>
    obtain ⟨g3, g4, g5, gC⟩ := c3 y hs
    have yb := (pOk_smW (τ := τ) (w := w) (skp t τ p) k1).2 y hs
    rw [if_pos g4]
    refine ⟨⟨by trivial, mj_isk_mk _ _⟩, t, τ, y.1, n + y.2.length, x, z, ⟨hw, TM_m hT c1, g3, yb.2.1, g4, g5, by rw [mF_14 c1]; exact h14, hx, gC.1, by omega⟩, fun D hD => ?_⟩
    obtain ⟨d1, d2, d3⟩ := hD
    rw [pgo_o hs] at eA
    cases hc : cmW t τ w y.1 with
    | error e =>
      obtain ⟨e3, j4, a, c, j3, ja, jc, jz⟩ := d2 e hc
      exact oM_E h (by rw [eA, pgo_e hc]) e3 (fr_tr c1 d1) j4 j3 ja jc jz
    | ok r =>
      obtain ⟨j3, j4, j5, jC⟩ := d3 r hc
      exact oM_O h (q := (r.1, y.2 ++ r.2)) (by rw [eA, pgo_o hc]) (fr_tr c1 d1) j3 j4 j5 (CdM_app gC jC)
theorem sdX12_unit {w : Nat} (hcs : mj_Cs mX12_unit (10 + 4 * (7 - w) + 0) (csX12_unit w)) : mj_Sd mX12_unit (10 + 4 * (7 - w) + 0) (tX12_unit w) := by
  intro Ω l d hd as M Φ h
  unfold tX12_unit at h
  split at h
  · rename_i z_this
    obtain ⟨⟨rfl, hM⟩, t, τ, p, n, x, z, hp, h⟩ := h
    rw [mj_isk_of hM]
    exact mnX12_unit hcs hd t τ p n x z _ _ hp (by
      rw [mj_isk_of hM] at h
      exact h)
  · exact h.elim
def csX12_goOnAnd (w : Nat) : List (Nat × Nat × Nat × mj_PT) := [(128, 0, 1, mj_rcv 12 tX12_look), (138, 0, 3, mj_rcv 12 tX12_putS), (165, 0, 1, mj_rcv 12 (tX12_unit w))]
theorem csX12_goOnAnd_ok {w : Nat} (hw : w ≤ 6) (h_X12_unit : mj_Sd mX12_unit (10 + 4 * (7 - w) + 0) (tX12_unit w)) : mj_Cs mX12_goOnAnd (10 + 4 * (7 - w) + 1) (csX12_goOnAnd w) := (mj_CsV (D' := 2) (ci := 12) (q := (RX12, TX12, 45)) sdX12_look (by omega) fX12_look rfl rfl iX12_look vX12_look (by decide +kernel) l12_128 (mj_CsV (D' := 1) (ci := 12) (q := (RX12, TX12, 45)) sdX12_putS (by omega) fX12_put rfl rfl iX12_put vX12_put (by decide +kernel) l12_138 (mj_CsV (D' := (10 + 4 * (7 - w) + 0)) (ci := 12) (q := (RX12, TX12, 45)) h_X12_unit (by omega) fX12_unit rfl rfl iX12_unit vX12_unit (by decide +kernel) l12_165 mj_Cs0)))
def cutX12_goOnAnd : List (Nat × List Bool) := [(0, [true])]
set_option maxRecDepth 100000 in
set_option maxHeartbeats 4000000 in
theorem inX12_goOnAnd {w : Nat} (hcs : mj_Cs mX12_goOnAnd (10 + 4 * (7 - w) + 1) (csX12_goOnAnd w)) {Ω : mj_Om} {l : Launch} {d : Nat} {Φ : Option Value → mj_M → Prop} (hd : (10 + 4 * (7 - w) + 1) ≤ d) (I : Nat → Nat → Int32) (J : Nat → Nat → Int64)
    (h : ((mj_G Ω l false mX12_goOnAnd d 0 0 Φ 0 0 0 ([some (.ref 91)], [], (mk I J))))) :
    mj_Met Ω l false mX12_goOnAnd d 0 0 [.ref 91] (mk I J) Φ := mj_entry (by decide) rfl (fun h => (by cases h)) (Nat.le_of_ble_eq_true rfl) h
set_option maxRecDepth 100000 in
set_option maxHeartbeats 4000000 in
theorem bX12_goOnAnd_0 {w : Nat} (hcs : mj_Cs mX12_goOnAnd (10 + 4 * (7 - w) + 1) (csX12_goOnAnd w)) {Ω : mj_Om} {l : Launch} {d : Nat} {Φ : Option Value → mj_M → Prop} (hd : (10 + 4 * (7 - w) + 1) ≤ d) (I : Nat → Nat → Int32) (J : Nat → Nat → Int64)
    (h : ((if (I 91 4) = (-1 : Int32) then ((91 = 91 ∧ mj_isk (mk I J)) ∧ (∃ t2207 : Nat, (∃ τ2208 : Nat → Int32, (∃ p2209 : Nat, ((TM I t2207 τ2208 ∧ I 91 3 = nI p2209 ∧ p2209 ≤ 300) ∧ (∀ I2210 : Nat → Nat → Int32, (I2210 91 3 = nI (skp t2207 τ2208 p2209) ∧ fr mFr I I2210) → (if (nsg t2207 τ2208 p2209) = (38 : Int32) then ((91 = 91 ∧ mj_isk (mk (mj_ui I2210 91 3 ((I2210 91 3) + (1 : Int32))) J)) ∧ (∃ t2212 : Nat, (∃ τ2213 : Nat → Int32, (∃ p2214 : Nat, (∃ n2215 : Nat, (∃ x2216 : Nat, (∃ z2217 : Nat, ((w ≤ 6 ∧ prM (mj_ui I2210 91 3 ((I2210 91 3) + (1 : Int32))) t2212 τ2213 p2214 n2215 w x2216 z2217) ∧ (∀ I2218 : Nat → Nat → Int32, (wrM (unW t2212 τ2213 w p2214) t2212 w n2215 x2216 z2217 (mj_ui I2210 91 3 ((I2210 91 3) + (1 : Int32))) I2218) → ((91 = 91 ∧ mj_isk (mk I2218 J)) ∧ (∃ x2219 : Nat, (∃ n2220 : Nat, ((I2218 91 14 = nI x2219 ∧ x2219 ≤ 4 ∧ I2218 95 x2219 = nI n2220 ∧ n2220 < 520) ∧ (∀ I2221 : Nat → Nat → Int32, (I2221 = mj_ui (mj_ui (mj_ui I2218 93 (520 * x2219 + n2220) (10 : Int32)) 94 (520 * x2219 + n2220) (0 : Int32)) 95 x2219 (nI (n2220 + 1))) → (mj_G Ω l false mX12_goOnAnd d 0 0 Φ 0 0 0 ([some (.ref 91)], [], (mk I2221 J))))))))))))))))) else (Φ none (mk I2210 J))))))))) else (Φ none (mk I J))))) :
    mj_G Ω l false mX12_goOnAnd d 0 0 Φ 0 0 0 ([some (.ref 91)], [], mk I J) := mj_blk (μ := mX12_goOnAnd) (P := pX12_goOnAnd) (cut := cutX12_goOnAnd) (cs := csX12_goOnAnd w) dX12_goOnAnd hcs hd 23 0 _ h
set_option maxHeartbeats 16000000 in
theorem mnX12_goOnAnd {w : Nat} (hcs : mj_Cs mX12_goOnAnd (10 + 4 * (7 - w) + 1) (csX12_goOnAnd w)) {Ω : mj_Om} {l : Launch} {d : Nat} {Φ : Option Value → mj_M → Prop} (hd : (10 + 4 * (7 - w) + 1) ≤ d) (t : Nat) (τ : Nat → Int32) (p : Nat) (n : Nat) (x : Nat) (z : Nat) (I : Nat → Nat → Int32) (J : Nat → Nat → Int64) (hp : w ≤ 6 ∧ (I 91 4 = -1 → prM I t τ p n w x z)) (h : ∀ I1 : Nat → Nat → Int32, ((¬ I 91 4 = -1 → I1 = I) ∧ (I 91 4 = -1 → wrM (lpP t τ opA (unW t τ w) (t + 1 - p) p []) t w n x z I I1)) → Φ none (mk I1 J)) : mj_Met Ω l false mX12_goOnAnd d 0 0 [.ref 91] (mk I J) Φ := by
  refine inX12_goOnAnd hcs hd I J ?_
  obtain ⟨hw, hp⟩ := hp
  by_cases hI4 : I 91 4 = -1
  case neg =>
    refine bX12_goOnAnd_0 hcs hd I J ?_
    rw [if_neg hI4]
    exact h I ⟨fun _ => rfl, fun q => absurd q hI4⟩
  obtain ⟨hT, h3, hpt, h4, h5, h14, hx, h95, hn⟩ := hp hI4
  have ht := hT.1.1
  have h := fun (I1 : Nat → Nat → Int32) (hI1 : wrM (lpP t τ opA (unW t τ w) (t + 1 - p) p []) t w n x z I I1) => h I1 ⟨fun q => absurd hI4 q, fun _ => hI1⟩
  have key : ∀ (f q : Nat) (xs : List Int32) (B : Nat → Nat → Int32), t + 1 ≤ q + f → q ≤ t → n + xs.length + z ≤ q → B 91 3 = nI q → B 91 4 = -1 → B 91 5 = nI w → CdM B x n xs I → fr (mF x) I B → lpP t τ opA (unW t τ w) (t + 1 - p) p [] = lpP t τ opA (unW t τ w) f q xs → mj_G Ω l false mX12_goOnAnd d 0 0 Φ 0 0 0 ([some (.ref 91)], [], mk B J) := by
    intro f
    induction f with
    | zero => intro q xs B hf hq hl b3 b4 b5 bC bF he; omega
    | succ f ih =>
      intro q xs B hf hq hl b3 b4 b5 bC bF he
      have k1 := skp_le (τ := τ) hq
      have k2 := skp_ge (t := t) (τ := τ) (p := q)
      rw [lpP.eq_2] at he
      refine bX12_goOnAnd_0 hcs hd B J ?_
      rw [if_pos b4]
      refine ⟨⟨by trivial, mj_isk_mk _ _⟩, t, τ, q, ⟨TM_m hT bF, b3, by omega⟩, fun C hC => ?_⟩
      obtain ⟨c3, cm⟩ := hC
      have dC := m_dF cm
      have frC : fr (mF x) I C := fr_tr bF (d_mF dC)
      have c4 : C 91 4 = -1 := by rw [cm 91 4 (by unfold mFr; omega)]; exact b4
      have c5 : C 91 5 = nI w := by rw [cm 91 5 (by unfold mFr; omega)]; exact b5
      have CC := CdM_d bC dC
      by_cases s1 : nsg t τ q = 38
      case neg =>
        rw [if_neg s1]
        exact oM_O h (q := (skp t τ q, xs)) (by rw [he, if_pos (by unfold opA; rw [if_neg s1])]) frC c3 c4 c5 CC
      rw [if_pos s1, c3, jn_succ]
      have eo : opA (nsg t τ q) = 20007 := by rw [s1]; decide
      rw [eo, if_neg (by decide)] at he
      have h3' : skp t τ q < t := nsg_p s1 (by decide)
      have dD : fr dFr C (mj_ui C 91 3 (nI (skp t τ q + 1))) := fr_ui fr_rf ⟨rfl, by omega⟩
      have frD : fr (mF x) I (mj_ui C 91 3 (nI (skp t τ q + 1))) := fr_tr frC (d_mF dD)
      have d14 : (mj_ui C 91 3 (nI (skp t τ q + 1))) 91 14 = nI x := by rw [mF_14 frD]; exact h14
      refine ⟨⟨by trivial, mj_isk_mk _ _⟩, t, τ, skp t τ q + 1, n + xs.length, x, z + 1, ⟨hw, TM_m hT frD, ui_s, h3', by rw [ui_k (by decide)]; exact c4, by rw [ui_k (by decide)]; exact c5, d14, hx, by rw [ui_c (by decide)]; exact CC.1, by omega⟩, fun E hE => ?_⟩
      have hE' := wrM_d hE dD
      refine putM (s := 20007) ht (by rw [mF_14 (fr_tr frC hE'.1)]; exact h14) hx (fun y hy => ?_) hE' (cm_of (by decide)) (fun K k5 hK => ?_)
      · have := (pOk_unW (τ := τ) (w := w) (skp t τ q + 1) h3').2 y hy
        omega
      · obtain ⟨r1, r2, r3⟩ := hK
        have frK : fr (mF x) I K := fr_tr frC r1
        cases hu : unW t τ w (skp t τ q + 1) with
        | error e =>
          obtain ⟨e3, g4, a, c', g3, ga, gc, gz⟩ := r2 e (pgo_e hu)
          refine bX12_goOnAnd_0 hcs hd K J ?_
          rw [if_neg (by rw [g4]; exact nI_n1 e3)]
          exact oM_E h (by rw [he, pgo_e hu]) e3 frK g4 g3 ga gc gz
        | ok y =>
          have yb := (pOk_unW (τ := τ) (w := w) (skp t τ q + 1) h3').2 y hu
          obtain ⟨g3, g4, g5, gC⟩ := r3 (y.1, y.2 ++ [20007]) (pgo_o hu)
          rw [pgo_o hu] at he
          refine ih y.1 (xs ++ y.2 ++ [20007]) K (by omega) yb.2.1 (by rw [List.length_append, List.length_append, List.length_singleton]; omega) g3 g4 g5 ?_ frK he
          rw [List.append_assoc]
          exact CdM_app CC gC
  exact key (t + 1 - p) p [] I (by omega) hpt (by show n + 0 + z ≤ p; omega) h3 h4 h5 (CdM_0 h95) fr_rf rfl
theorem sdX12_goOnAnd {w : Nat} (hcs : mj_Cs mX12_goOnAnd (10 + 4 * (7 - w) + 1) (csX12_goOnAnd w)) : mj_Sd mX12_goOnAnd (10 + 4 * (7 - w) + 1) (tX12_goOnAnd w) := by
  intro Ω l d hd as M Φ h
  unfold tX12_goOnAnd at h
  split at h
  · rename_i z_this
    obtain ⟨⟨rfl, hM⟩, t, τ, p, n, x, z, hp, h⟩ := h
    rw [mj_isk_of hM]
    exact mnX12_goOnAnd hcs hd t τ p n x z _ _ hp (by
      rw [mj_isk_of hM] at h
      exact h)
  · exact h.elim
def csX12_goOnOr (w : Nat) : List (Nat × Nat × Nat × mj_PT) := [(128, 0, 1, mj_rcv 12 tX12_look), (138, 0, 3, mj_rcv 12 tX12_putS), (165, 0, 1, mj_rcv 12 (tX12_unit w)), (174, 0, 1, mj_rcv 12 (tX12_goOnAnd w))]
theorem csX12_goOnOr_ok {w : Nat} (hw : w ≤ 6) (h_X12_unit : mj_Sd mX12_unit (10 + 4 * (7 - w) + 0) (tX12_unit w)) (h_X12_goOnAnd : mj_Sd mX12_goOnAnd (10 + 4 * (7 - w) + 1) (tX12_goOnAnd w)) : mj_Cs mX12_goOnOr (10 + 4 * (7 - w) + 2) (csX12_goOnOr w) := (mj_CsV (D' := 2) (ci := 12) (q := (RX12, TX12, 45)) sdX12_look (by omega) fX12_look rfl rfl iX12_look vX12_look (by decide +kernel) l12_128 (mj_CsV (D' := 1) (ci := 12) (q := (RX12, TX12, 45)) sdX12_putS (by omega) fX12_put rfl rfl iX12_put vX12_put (by decide +kernel) l12_138 (mj_CsV (D' := (10 + 4 * (7 - w) + 0)) (ci := 12) (q := (RX12, TX12, 45)) h_X12_unit (by omega) fX12_unit rfl rfl iX12_unit vX12_unit (by decide +kernel) l12_165 (mj_CsV (D' := (10 + 4 * (7 - w) + 1)) (ci := 12) (q := (RX12, TX12, 45)) h_X12_goOnAnd (by omega) fX12_goOnAnd rfl rfl iX12_goOnAnd vX12_goOnAnd (by decide +kernel) l12_174 mj_Cs0))))
def cutX12_goOnOr : List (Nat × List Bool) := [(0, [true])]
set_option maxRecDepth 100000 in
set_option maxHeartbeats 4000000 in
theorem inX12_goOnOr {w : Nat} (hcs : mj_Cs mX12_goOnOr (10 + 4 * (7 - w) + 2) (csX12_goOnOr w)) {Ω : mj_Om} {l : Launch} {d : Nat} {Φ : Option Value → mj_M → Prop} (hd : (10 + 4 * (7 - w) + 2) ≤ d) (I : Nat → Nat → Int32) (J : Nat → Nat → Int64)
    (h : ((mj_G Ω l false mX12_goOnOr d 0 0 Φ 0 0 0 ([some (.ref 91)], [], (mk I J))))) :
    mj_Met Ω l false mX12_goOnOr d 0 0 [.ref 91] (mk I J) Φ := mj_entry (by decide) rfl (fun h => (by cases h)) (Nat.le_of_ble_eq_true rfl) h
set_option maxRecDepth 100000 in
set_option maxHeartbeats 4000000 in
theorem bX12_goOnOr_0 {w : Nat} (hcs : mj_Cs mX12_goOnOr (10 + 4 * (7 - w) + 2) (csX12_goOnOr w)) {Ω : mj_Om} {l : Launch} {d : Nat} {Φ : Option Value → mj_M → Prop} (hd : (10 + 4 * (7 - w) + 2) ≤ d) (I : Nat → Nat → Int32) (J : Nat → Nat → Int64)
    (h : ((if (I 91 4) = (-1 : Int32) then ((91 = 91 ∧ mj_isk (mk I J)) ∧ (∃ t2292 : Nat, (∃ τ2293 : Nat → Int32, (∃ p2294 : Nat, ((TM I t2292 τ2293 ∧ I 91 3 = nI p2294 ∧ p2294 ≤ 300) ∧ (∀ I2295 : Nat → Nat → Int32, (I2295 91 3 = nI (skp t2292 τ2293 p2294) ∧ fr mFr I I2295) → (if (nsg t2292 τ2293 p2294) = (124 : Int32) then ((91 = 91 ∧ mj_isk (mk (mj_ui I2295 91 3 ((I2295 91 3) + (1 : Int32))) J)) ∧ (∃ t2297 : Nat, (∃ τ2298 : Nat → Int32, (∃ p2299 : Nat, (∃ n2300 : Nat, (∃ x2301 : Nat, (∃ z2302 : Nat, ((w ≤ 6 ∧ prM (mj_ui I2295 91 3 ((I2295 91 3) + (1 : Int32))) t2297 τ2298 p2299 n2300 w x2301 z2302) ∧ (∀ I2303 : Nat → Nat → Int32, (wrM (unW t2297 τ2298 w p2299) t2297 w n2300 x2301 z2302 (mj_ui I2295 91 3 ((I2295 91 3) + (1 : Int32))) I2303) → ((91 = 91 ∧ mj_isk (mk I2303 J)) ∧ (∃ t2304 : Nat, (∃ τ2305 : Nat → Int32, (∃ p2306 : Nat, (∃ n2307 : Nat, (∃ x2308 : Nat, (∃ z2309 : Nat, ((w ≤ 6 ∧ (I2303 91 4 = -1 → prM I2303 t2304 τ2305 p2306 n2307 w x2308 z2309)) ∧ (∀ I2310 : Nat → Nat → Int32, ((¬ I2303 91 4 = -1 → I2310 = I2303) ∧ (I2303 91 4 = -1 → wrM (lpP t2304 τ2305 opA (unW t2304 τ2305 w) (t2304 + 1 - p2306) p2306 []) t2304 w n2307 x2308 z2309 I2303 I2310)) → ((91 = 91 ∧ mj_isk (mk I2310 J)) ∧ (∃ x2311 : Nat, (∃ n2312 : Nat, ((I2310 91 14 = nI x2311 ∧ x2311 ≤ 4 ∧ I2310 95 x2311 = nI n2312 ∧ n2312 < 520) ∧ (∀ I2313 : Nat → Nat → Int32, (I2313 = mj_ui (mj_ui (mj_ui I2310 93 (520 * x2311 + n2312) (11 : Int32)) 94 (520 * x2311 + n2312) (0 : Int32)) 95 x2311 (nI (n2312 + 1))) → (mj_G Ω l false mX12_goOnOr d 0 0 Φ 0 0 0 ([some (.ref 91)], [], (mk I2313 J)))))))))))))))))))))))))) else (Φ none (mk I2295 J))))))))) else (Φ none (mk I J))))) :
    mj_G Ω l false mX12_goOnOr d 0 0 Φ 0 0 0 ([some (.ref 91)], [], mk I J) := mj_blk (μ := mX12_goOnOr) (P := pX12_goOnOr) (cut := cutX12_goOnOr) (cs := csX12_goOnOr w) dX12_goOnOr hcs hd 25 0 _ h
set_option maxHeartbeats 16000000 in
theorem mnX12_goOnOr {w : Nat} (hcs : mj_Cs mX12_goOnOr (10 + 4 * (7 - w) + 2) (csX12_goOnOr w)) {Ω : mj_Om} {l : Launch} {d : Nat} {Φ : Option Value → mj_M → Prop} (hd : (10 + 4 * (7 - w) + 2) ≤ d) (t : Nat) (τ : Nat → Int32) (p : Nat) (n : Nat) (x : Nat) (z : Nat) (I : Nat → Nat → Int32) (J : Nat → Nat → Int64) (hp : w ≤ 6 ∧ (I 91 4 = -1 → prM I t τ p n w x z)) (h : ∀ I1 : Nat → Nat → Int32, ((¬ I 91 4 = -1 → I1 = I) ∧ (I 91 4 = -1 → wrM (lpP t τ opO (trW t τ w) (t + 1 - p) p []) t w n x z I I1)) → Φ none (mk I1 J)) : mj_Met Ω l false mX12_goOnOr d 0 0 [.ref 91] (mk I J) Φ := by
  refine inX12_goOnOr hcs hd I J ?_
  obtain ⟨hw, hp⟩ := hp
  by_cases hI4 : I 91 4 = -1
  case neg =>
    refine bX12_goOnOr_0 hcs hd I J ?_
    rw [if_neg hI4]
    exact h I ⟨fun _ => rfl, fun q => absurd q hI4⟩
  obtain ⟨hT, h3, hpt, h4, h5, h14, hx, h95, hn⟩ := hp hI4
  have ht := hT.1.1
  have h := fun (I1 : Nat → Nat → Int32) (hI1 : wrM (lpP t τ opO (trW t τ w) (t + 1 - p) p []) t w n x z I I1) => h I1 ⟨fun q => absurd hI4 q, fun _ => hI1⟩
  have key : ∀ (f q : Nat) (xs : List Int32) (B : Nat → Nat → Int32), t + 1 ≤ q + f → q ≤ t → n + xs.length + z ≤ q → B 91 3 = nI q → B 91 4 = -1 → B 91 5 = nI w → CdM B x n xs I → fr (mF x) I B → lpP t τ opO (trW t τ w) (t + 1 - p) p [] = lpP t τ opO (trW t τ w) f q xs → mj_G Ω l false mX12_goOnOr d 0 0 Φ 0 0 0 ([some (.ref 91)], [], mk B J) := by
    intro f
    induction f with
    | zero => intro q xs B hf hq hl b3 b4 b5 bC bF he; omega
    | succ f ih =>
      intro q xs B hf hq hl b3 b4 b5 bC bF he
      have k1 := skp_le (τ := τ) hq
      have k2 := skp_ge (t := t) (τ := τ) (p := q)
      rw [lpP.eq_2] at he
      refine bX12_goOnOr_0 hcs hd B J ?_
      rw [if_pos b4]
      refine ⟨⟨by trivial, mj_isk_mk _ _⟩, t, τ, q, ⟨TM_m hT bF, b3, by omega⟩, fun C hC => ?_⟩
      obtain ⟨c3, cm⟩ := hC
      have dC := m_dF cm
      have frC : fr (mF x) I C := fr_tr bF (d_mF dC)
      have c4 : C 91 4 = -1 := by rw [cm 91 4 (by unfold mFr; omega)]; exact b4
      have c5 : C 91 5 = nI w := by rw [cm 91 5 (by unfold mFr; omega)]; exact b5
      have CC := CdM_d bC dC
      by_cases s1 : nsg t τ q = 124
      case neg =>
        rw [if_neg s1]
        exact oM_O h (q := (skp t τ q, xs)) (by rw [he, if_pos (by unfold opO; rw [if_neg s1])]) frC c3 c4 c5 CC
      rw [if_pos s1, c3, jn_succ]
      have eo : opO (nsg t τ q) = 20008 := by rw [s1]; decide
      rw [eo, if_neg (by decide)] at he
      have h3' : skp t τ q < t := nsg_p s1 (by decide)
      have dD : fr dFr C (mj_ui C 91 3 (nI (skp t τ q + 1))) := fr_ui fr_rf ⟨rfl, by omega⟩
      have frD : fr (mF x) I (mj_ui C 91 3 (nI (skp t τ q + 1))) := fr_tr frC (d_mF dD)
      have d14 : (mj_ui C 91 3 (nI (skp t τ q + 1))) 91 14 = nI x := by rw [mF_14 frD]; exact h14
      refine ⟨⟨by trivial, mj_isk_mk _ _⟩, t, τ, skp t τ q + 1, n + xs.length, x, z + 1, ⟨hw, TM_m hT frD, ui_s, h3', by rw [ui_k (by decide)]; exact c4, by rw [ui_k (by decide)]; exact c5, d14, hx, by rw [ui_c (by decide)]; exact CC.1, by omega⟩, fun E hE => ?_⟩
      refine andM (A1 := unW) (op := opA) hw (TM_m hT frD) d14 hx pOk_unW h3' (by omega) hE (fun E hE => ?_)
      change wrM (trW t τ w (skp t τ q + 1)) t w (n + xs.length) x (z + 1) _ E at hE
      have hE' := wrM_d hE dD
      refine putM (s := 20008) ht (by rw [mF_14 (fr_tr frC hE'.1)]; exact h14) hx (fun y hy => ?_) hE' (cm_of (by decide)) (fun K k5 hK => ?_)
      · have := (pOk_trW (τ := τ) (w := w) (skp t τ q + 1) h3').2 y hy
        omega
      · obtain ⟨r1, r2, r3⟩ := hK
        have frK : fr (mF x) I K := fr_tr frC r1
        cases hu : trW t τ w (skp t τ q + 1) with
        | error e =>
          obtain ⟨e3, g4, a, c', g3, ga, gc, gz⟩ := r2 e (pgo_e hu)
          refine bX12_goOnOr_0 hcs hd K J ?_
          rw [if_neg (by rw [g4]; exact nI_n1 e3)]
          exact oM_E h (by rw [he, pgo_e hu]) e3 frK g4 g3 ga gc gz
        | ok y =>
          have yb := (pOk_trW (τ := τ) (w := w) (skp t τ q + 1) h3').2 y hu
          obtain ⟨g3, g4, g5, gC⟩ := r3 (y.1, y.2 ++ [20008]) (pgo_o hu)
          rw [pgo_o hu] at he
          refine ih y.1 (xs ++ y.2 ++ [20008]) K (by omega) yb.2.1 (by rw [List.length_append, List.length_append, List.length_singleton]; omega) g3 g4 g5 ?_ frK he
          rw [List.append_assoc]
          exact CdM_app CC gC
  exact key (t + 1 - p) p [] I (by omega) hpt (by show n + 0 + z ≤ p; omega) h3 h4 h5 (CdM_0 h95) fr_rf rfl
theorem sdX12_goOnOr {w : Nat} (hcs : mj_Cs mX12_goOnOr (10 + 4 * (7 - w) + 2) (csX12_goOnOr w)) : mj_Sd mX12_goOnOr (10 + 4 * (7 - w) + 2) (tX12_goOnOr w) := by
  intro Ω l d hd as M Φ h
  unfold tX12_goOnOr at h
  split at h
  · rename_i z_this
    obtain ⟨⟨rfl, hM⟩, t, τ, p, n, x, z, hp, h⟩ := h
    rw [mj_isk_of hM]
    exact mnX12_goOnOr hcs hd t τ p n x z _ _ hp (by
      rw [mj_isk_of hM] at h
      exact h)
  · exact h.elim
def csX12_condition (w : Nat) : List (Nat × Nat × Nat × mj_PT) := [(165, 0, 1, mj_rcv 12 (tX12_unit w)), (174, 0, 1, mj_rcv 12 (tX12_goOnAnd w)), (177, 0, 1, mj_rcv 12 (tX12_goOnOr w))]
theorem csX12_condition_ok {w : Nat} (hw : w ≤ 6) (h_X12_unit : mj_Sd mX12_unit (10 + 4 * (7 - w) + 0) (tX12_unit w)) (h_X12_goOnAnd : mj_Sd mX12_goOnAnd (10 + 4 * (7 - w) + 1) (tX12_goOnAnd w)) (h_X12_goOnOr : mj_Sd mX12_goOnOr (10 + 4 * (7 - w) + 2) (tX12_goOnOr w)) : mj_Cs mX12_condition (10 + 4 * (7 - w) + 3) (csX12_condition w) := (mj_CsV (D' := (10 + 4 * (7 - w) + 0)) (ci := 12) (q := (RX12, TX12, 45)) h_X12_unit (by omega) fX12_unit rfl rfl iX12_unit vX12_unit (by decide +kernel) l12_165 (mj_CsV (D' := (10 + 4 * (7 - w) + 1)) (ci := 12) (q := (RX12, TX12, 45)) h_X12_goOnAnd (by omega) fX12_goOnAnd rfl rfl iX12_goOnAnd vX12_goOnAnd (by decide +kernel) l12_174 (mj_CsV (D' := (10 + 4 * (7 - w) + 2)) (ci := 12) (q := (RX12, TX12, 45)) h_X12_goOnOr (by omega) fX12_goOnOr rfl rfl iX12_goOnOr vX12_goOnOr (by decide +kernel) l12_177 mj_Cs0)))
def cutX12_condition : List (Nat × List Bool) := []
set_option maxRecDepth 100000 in
set_option maxHeartbeats 4000000 in
theorem inX12_condition {w : Nat} (hcs : mj_Cs mX12_condition (10 + 4 * (7 - w) + 3) (csX12_condition w)) {Ω : mj_Om} {l : Launch} {d : Nat} {Φ : Option Value → mj_M → Prop} (hd : (10 + 4 * (7 - w) + 3) ≤ d) (I : Nat → Nat → Int32) (J : Nat → Nat → Int64)
    (h : (((91 = 91 ∧ mj_isk (mk I J)) ∧ (∃ t2336 : Nat, (∃ τ2337 : Nat → Int32, (∃ p2338 : Nat, (∃ n2339 : Nat, (∃ x2340 : Nat, (∃ z2341 : Nat, ((w ≤ 6 ∧ prM I t2336 τ2337 p2338 n2339 w x2340 z2341) ∧ (∀ I2342 : Nat → Nat → Int32, (wrM (unW t2336 τ2337 w p2338) t2336 w n2339 x2340 z2341 I I2342) → ((91 = 91 ∧ mj_isk (mk I2342 J)) ∧ (∃ t2343 : Nat, (∃ τ2344 : Nat → Int32, (∃ p2345 : Nat, (∃ n2346 : Nat, (∃ x2347 : Nat, (∃ z2348 : Nat, ((w ≤ 6 ∧ (I2342 91 4 = -1 → prM I2342 t2343 τ2344 p2345 n2346 w x2347 z2348)) ∧ (∀ I2349 : Nat → Nat → Int32, ((¬ I2342 91 4 = -1 → I2349 = I2342) ∧ (I2342 91 4 = -1 → wrM (lpP t2343 τ2344 opA (unW t2343 τ2344 w) (t2343 + 1 - p2345) p2345 []) t2343 w n2346 x2347 z2348 I2342 I2349)) → ((91 = 91 ∧ mj_isk (mk I2349 J)) ∧ (∃ t2350 : Nat, (∃ τ2351 : Nat → Int32, (∃ p2352 : Nat, (∃ n2353 : Nat, (∃ x2354 : Nat, (∃ z2355 : Nat, ((w ≤ 6 ∧ (I2349 91 4 = -1 → prM I2349 t2350 τ2351 p2352 n2353 w x2354 z2355)) ∧ (∀ I2356 : Nat → Nat → Int32, ((¬ I2349 91 4 = -1 → I2356 = I2349) ∧ (I2349 91 4 = -1 → wrM (lpP t2350 τ2351 opO (trW t2350 τ2351 w) (t2350 + 1 - p2352) p2352 []) t2350 w n2353 x2354 z2355 I2349 I2356)) → (Φ none (mk I2356 J))))))))))))))))))))))))))))))) :
    mj_Met Ω l false mX12_condition d 0 0 [.ref 91] (mk I J) Φ := mj_entry (by decide) rfl (fun h => (by cases h)) (Nat.le_of_ble_eq_true rfl) (mj_blk (μ := mX12_condition) (P := pX12_condition) (cut := cutX12_condition) (cs := csX12_condition w) dX12_condition hcs hd 8 0 _ h)
set_option maxHeartbeats 8000000 in
theorem mnX12_condition {w : Nat} (hcs : mj_Cs mX12_condition (10 + 4 * (7 - w) + 3) (csX12_condition w)) {Ω : mj_Om} {l : Launch} {d : Nat} {Φ : Option Value → mj_M → Prop} (hd : (10 + 4 * (7 - w) + 3) ≤ d) (t : Nat) (τ : Nat → Int32) (p : Nat) (n : Nat) (x : Nat) (z : Nat) (I : Nat → Nat → Int32) (J : Nat → Nat → Int64) (hp : w ≤ 6 ∧ prM I t τ p n w x z) (h : ∀ I1 : Nat → Nat → Int32, (wrM (cdW t τ w p) t w n x z I I1) → Φ none (mk I1 J)) : mj_Met Ω l false mX12_condition d 0 0 [.ref 91] (mk I J) Φ := by
  refine inX12_condition hcs hd I J ?_
  obtain ⟨hw, hT, h3, hpt, h4, h5, h14, hx, h95, hn⟩ := hp
  have ht := hT.1.1
  have k1 := skp_le (τ := τ) hpt
  have k2 := skp_ge (t := t) (τ := τ) (p := p)
  refine ⟨⟨by trivial, mj_isk_mk _ _⟩, t, τ, p, n, x, z, ⟨hw, hT, h3, hpt, h4, h5, h14, hx, h95, hn⟩, fun E hE => ?_⟩
  refine andM (A1 := unW) (op := opA) hw hT h14 hx pOk_unW hpt hn hE (fun B hB => ?_)
  change wrM (trW t τ w p) t w n x z I B at hB
  refine andM (A1 := trW) (op := opO) hw hT h14 hx pOk_trW hpt hn hB (fun C hC => ?_)
  exact h C hC
theorem sdX12_condition {w : Nat} (hcs : mj_Cs mX12_condition (10 + 4 * (7 - w) + 3) (csX12_condition w)) : mj_Sd mX12_condition (10 + 4 * (7 - w) + 3) (tX12_condition w) := by
  intro Ω l d hd as M Φ h
  unfold tX12_condition at h
  split at h
  · rename_i z_this
    obtain ⟨⟨rfl, hM⟩, t, τ, p, n, x, z, hp, h⟩ := h
    rw [mj_isk_of hM]
    exact mnX12_condition hcs hd t τ p n x z _ _ hp (by
      rw [mj_isk_of hM] at h
      exact h)
  · exact h.elim
theorem sdX12_compareA (w : Nat) (hw : w ≤ 6) : mj_Sd mX12_compare (8 + 3 * (7 - w) + 0) (tX12_compare w) := sdX12_compare (csX12_compare_ok hw (sdX12_sumA _ w rfl))
theorem sdX12_unitA : ∀ (k w : Nat), 7 - w = k → mj_Sd mX12_unit (10 + 4 * (7 - w) + 0) (tX12_unit w) ∧ mj_Sd mX12_goOnAnd (10 + 4 * (7 - w) + 1) (tX12_goOnAnd w) ∧ mj_Sd mX12_goOnOr (10 + 4 * (7 - w) + 2) (tX12_goOnOr w) ∧ mj_Sd mX12_condition (10 + 4 * (7 - w) + 3) (tX12_condition w) := by
  intro k
  induction k with
  | zero =>
    intro w hw
    refine ⟨?_, ?_, ?_, ?_⟩
    · intro Ω l d hd as M Φ h
      unfold tX12_unit at h
      split at h
      · obtain ⟨-, t, τ, p, n, x, z, ⟨q, -⟩, -⟩ := h
        omega
      · exact h.elim
    · intro Ω l d hd as M Φ h
      unfold tX12_goOnAnd at h
      split at h
      · obtain ⟨-, t, τ, p, n, x, z, ⟨q, -⟩, -⟩ := h
        omega
      · exact h.elim
    · intro Ω l d hd as M Φ h
      unfold tX12_goOnOr at h
      split at h
      · obtain ⟨-, t, τ, p, n, x, z, ⟨q, -⟩, -⟩ := h
        omega
      · exact h.elim
    · intro Ω l d hd as M Φ h
      unfold tX12_condition at h
      split at h
      · obtain ⟨-, t, τ, p, n, x, z, ⟨q, -⟩, -⟩ := h
        omega
      · exact h.elim
  | succ k ih =>
    intro w hw
    obtain ⟨hu, -, -, hc⟩ := ih (w + 1) (by omega)
    have h1 : mj_Sd mX12_unit (10 + 4 * (7 - w) + 0) (tX12_unit w) := sdX12_unit (csX12_unit_ok (by omega) (sdX12_sumA _ w rfl) hu hc (sdX12_compareA w (by omega)))
    have h2 : mj_Sd mX12_goOnAnd (10 + 4 * (7 - w) + 1) (tX12_goOnAnd w) := sdX12_goOnAnd (csX12_goOnAnd_ok (by omega) h1)
    have h3 : mj_Sd mX12_goOnOr (10 + 4 * (7 - w) + 2) (tX12_goOnOr w) := sdX12_goOnOr (csX12_goOnOr_ok (by omega) h1 h2)
    exact ⟨h1, h2, h3, sdX12_condition (csX12_condition_ok (by omega) h1 h2 h3)⟩
