/-! ===== the reference's atom, term, sum (by program, wip/whole/p80.py) ===== -/
theorem oM_E {Φ : Option Value → mj_M → Prop} {r : PR} {t w n x z : Nat} {I A : Nat → Nat → Int32} {J : Nat → Nat → Int64} {e a c : Nat} (h : ∀ I1 : Nat → Nat → Int32, (wrM r t w n x z I I1) → Φ none (mk I1 J)) (he : r = .error e) (he3 : e ≤ 300) (hf : fr (mF x) I A) (h4 : A 91 4 = nI e) (h3 : A 91 3 = nI a) (ha : a ≤ t + (7 - w)) (h5 : A 95 x = nI c) (hc : c + z ≤ a) : Φ none (mk A J) :=
  h A ⟨hf, fun e' h' => by rw [he] at h'; cases h'; exact ⟨he3, h4, a, c, h3, ha, h5, hc⟩, fun q h' => by rw [he] at h'; (cases h')⟩
theorem oM_O {Φ : Option Value → mj_M → Prop} {r : PR} {t w n x z : Nat} {I A : Nat → Nat → Int32} {J : Nat → Nat → Int64} {q : Nat × List Int32} (h : ∀ I1 : Nat → Nat → Int32, (wrM r t w n x z I I1) → Φ none (mk I1 J)) (he : r = .ok q) (hf : fr (mF x) I A) (h3 : A 91 3 = nI q.1) (h4 : A 91 4 = -1) (h5 : A 91 5 = nI w) (hc : CdM A x n q.2 I) : Φ none (mk A J) :=
  h A ⟨hf, fun e' h' => by rw [he] at h'; (cases h'), fun q' h' => by rw [he] at h'; cases h'; exact ⟨h3, h4, h5, hc⟩⟩
theorem numR_skp {t : Nat} {τ : Nat → Int32} {m p : Nat} : numR t τ m (skp t τ p) = numR t τ m p := by unfold numR; rw [nsg_skp, skp_skp]
theorem ltr_D {s : Int32} (h : isD s) : ltr s = -1 := by
  unfold isD at h
  unfold ltr
  have g : ∀ k : Nat, 57 < k → k < 256 → ¬ s = nI k := fun k h1 h2 q => by
    rw [q, jn_toInt (by omega)] at h
    omega
  rw [if_neg (show ¬ s = (98 : Int32) from g 98 (by decide) (by decide)), if_neg (show ¬ s = (116 : Int32) from g 116 (by decide) (by decide)), if_neg (show ¬ s = (118 : Int32) from g 118 (by decide) (by decide)), if_neg (show ¬ s = (120 : Int32) from g 120 (by decide) (by decide)), if_neg (show ¬ s = (99 : Int32) from g 99 (by decide) (by decide)), if_neg (show ¬ s = (119 : Int32) from g 119 (by decide) (by decide)), if_neg (show ¬ s = (108 : Int32) from g 108 (by decide) (by decide))]
theorem D_ne {s : Int32} {k : Nat} (h : isD s) (h1 : 57 < k) (h2 : k < 256) : ¬ s = nI k := fun q => by
  unfold isD at h
  rw [q, jn_toInt (by omega)] at h
  omega
def csX12_atom (w : Nat) : List (Nat × Nat × Nat × mj_PT) := [(125, 0, 1, mj_rcv 12 tX12_badS), (128, 0, 1, mj_rcv 12 tX12_look), (131, 1, 1, tX12_isDigitS), (135, 0, 1, mj_rcv 12 tX12_plainNumber), (138, 0, 3, mj_rcv 12 tX12_putS), (142, 1, 1, tX12_letterOfS), (146, 0, 1, mj_rcv 12 tX12_opensS), (149, 0, 1, mj_rcv 12 (tX12_sum (w + 1))), (152, 0, 2, mj_rcv 12 tX12_closes)]
theorem csX12_atom_ok {w : Nat} (hw : w ≤ 6) (h_X12_sum : mj_Sd mX12_sum (5 + 3 * (7 - (w + 1)) + 2) (tX12_sum (w + 1))) : mj_Cs mX12_atom (5 + 3 * (7 - w) + 0) (csX12_atom w) := (mj_CsV (D' := 1) (ci := 12) (q := (RX12, TX12, 45)) sdX12_badS (by omega) fX12_bad rfl rfl iX12_bad vX12_bad (by decide +kernel) l12_125 (mj_CsV (D' := 2) (ci := 12) (q := (RX12, TX12, 45)) sdX12_look (by omega) fX12_look rfl rfl iX12_look vX12_look (by decide +kernel) l12_128 (mj_CsS (D' := 1) sdX12_isDigitS (by omega) fX12_isDigit sX12_isDigit (by decide +kernel) l12_131 (mj_CsV (D' := 2) (ci := 12) (q := (RX12, TX12, 45)) sdX12_plainNumber (by omega) fX12_plainNumber rfl rfl iX12_plainNumber vX12_plainNumber (by decide +kernel) l12_135 (mj_CsV (D' := 1) (ci := 12) (q := (RX12, TX12, 45)) sdX12_putS (by omega) fX12_put rfl rfl iX12_put vX12_put (by decide +kernel) l12_138 (mj_CsS (D' := 1) sdX12_letterOfS (by omega) fX12_letterOf sX12_letterOf (by decide +kernel) l12_142 (mj_CsV (D' := 2) (ci := 12) (q := (RX12, TX12, 45)) sdX12_opensS (by omega) fX12_opens rfl rfl iX12_opens vX12_opens (by decide +kernel) l12_146 (mj_CsV (D' := (5 + 3 * (7 - (w + 1)) + 2)) (ci := 12) (q := (RX12, TX12, 45)) h_X12_sum (by omega) fX12_sum rfl rfl iX12_sum vX12_sum (by decide +kernel) l12_149 (mj_CsV (D' := 3) (ci := 12) (q := (RX12, TX12, 45)) sdX12_closes (by omega) fX12_closes rfl rfl iX12_closes vX12_closes (by decide +kernel) l12_152 mj_Cs0)))))))))
def cutX12_atom : List (Nat × List Bool) := []
set_option maxRecDepth 100000 in
set_option maxHeartbeats 4000000 in
theorem inX12_atom {w : Nat} (hcs : mj_Cs mX12_atom (5 + 3 * (7 - w) + 0) (csX12_atom w)) {Ω : mj_Om} {l : Launch} {d : Nat} {Φ : Option Value → mj_M → Prop} (hd : (5 + 3 * (7 - w) + 0) ≤ d) (I : Nat → Nat → Int32) (J : Nat → Nat → Int64)
    (h : (((91 = 91 ∧ mj_isk (mk I J)) ∧ (∃ t1783 : Nat, (∃ τ1784 : Nat → Int32, (∃ p1785 : Nat, ((TM I t1783 τ1784 ∧ I 91 3 = nI p1785 ∧ p1785 ≤ 300) ∧ (∀ I1786 : Nat → Nat → Int32, (I1786 91 3 = nI (skp t1783 τ1784 p1785) ∧ fr mFr I I1786) → ((mj_isk (mk I1786 J)) ∧ (if (b2i (isD (nsg t1783 τ1784 p1785))) = (0 : Int32) then ((mj_isk (mk I1786 J)) ∧ (if (ltr (nsg t1783 τ1784 p1785)) = (-1 : Int32) then (if (nsg t1783 τ1784 p1785) = (91 : Int32) then ((91 = 91 ∧ mj_isk (mk I1786 J)) ∧ (∃ p1792 : Nat, (∃ w1793 : Nat, ((I1786 91 4 = -1 ∧ I1786 91 3 = nI p1792 ∧ I1786 91 5 = nI w1793 ∧ w1793 ≤ 6) ∧ (∀ I1794 : Nat → Nat → Int32, (I1794 91 3 = nI (p1792 + 1) ∧ I1794 91 5 = nI (w1793 + 1) ∧ I1794 91 4 = (if w1793 < 6 then -1 else nI p1792) ∧ fr dFr I1786 I1794) → (if (I1794 91 4) = (-1 : Int32) then ((91 = 91 ∧ mj_isk (mk I1794 J)) ∧ (∃ t1796 : Nat, (∃ τ1797 : Nat → Int32, (∃ p1798 : Nat, (∃ n1799 : Nat, (∃ x1800 : Nat, (∃ z1801 : Nat, (((w + 1) ≤ 6 ∧ prM I1794 t1796 τ1797 p1798 n1799 (w + 1) x1800 z1801) ∧ (∀ I1802 : Nat → Nat → Int32, (wrM (smW t1796 τ1797 (w + 1) p1798) t1796 (w + 1) n1799 x1800 z1801 I1794 I1802) → ((91 = 91 ∧ mj_isk (mk I1802 J)) ∧ (∃ t1803 : Nat, (∃ τ1804 : Nat → Int32, (∃ p1805 : Nat, ((TM I1802 t1803 τ1804 ∧ I1802 91 3 = nI p1805 ∧ p1805 ≤ 300) ∧ (∀ I1806 : Nat → Nat → Int32, (fr dFr I1802 I1806 ∧ (I1802 91 4 = -1 → I1806 91 3 = nI (skp t1803 τ1804 p1805 + 1) ∧ I1806 91 4 = (if nsg t1803 τ1804 p1805 = (93 : Int32) then -1 else nI (skp t1803 τ1804 p1805)) ∧ I1806 91 5 = I1802 91 5 - 1) ∧ (¬ I1802 91 4 = -1 → I1806 91 3 = nI (p1805 + 1) ∧ I1806 91 4 = I1802 91 4)) → (Φ none (mk I1806 J))))))))))))))))) else (Φ none (mk I1794 J)))))))) else ((91 = 91 ∧ mj_isk (mk I1786 J)) ∧ (∀ I1808 : Nat → Nat → Int32, (I1808 = mj_ui I1786 91 4 (bdV I1786)) → (Φ none (mk I1808 J))))) else ((mj_isk (mk (mj_ui I1786 91 3 ((I1786 91 3) + (1 : Int32))) J)) ∧ ((91 = 91 ∧ mj_isk (mk (mj_ui I1786 91 3 ((I1786 91 3) + (1 : Int32))) J)) ∧ (∃ x1812 : Nat, (∃ n1813 : Nat, (((mj_ui I1786 91 3 ((I1786 91 3) + (1 : Int32))) 91 14 = nI x1812 ∧ x1812 ≤ 4 ∧ (mj_ui I1786 91 3 ((I1786 91 3) + (1 : Int32))) 95 x1812 = nI n1813 ∧ n1813 < 520) ∧ (∀ I1814 : Nat → Nat → Int32, (I1814 = mj_ui (mj_ui (mj_ui (mj_ui I1786 91 3 ((I1786 91 3) + (1 : Int32))) 93 (520 * x1812 + n1813) (1 : Int32)) 94 (520 * x1812 + n1813) (ltr (nsg t1783 τ1784 p1785))) 95 x1812 (nI (n1813 + 1))) → (Φ none (mk I1814 J)))))))))) else ((91 = 91 ∧ mj_isk (mk I1786 J)) ∧ (∃ t1816 : Nat, (∃ τ1817 : Nat → Int32, (∃ p1818 : Nat, ((TM I1786 t1816 τ1817 ∧ I1786 91 3 = nI p1818 ∧ p1818 ≤ t1816 ∧ I1786 91 4 = -1) ∧ (∀ I1819 : Nat → Nat → Int32, (I1819 91 3 = nI (nmV t1816 τ1817 4 p1818 0).1 ∧ (isD (sg t1816 τ1817 (nmV t1816 τ1817 4 p1818 0).1) → I1819 91 4 = nI (nmV t1816 τ1817 4 p1818 0).1) ∧ (¬ isD (sg t1816 τ1817 (nmV t1816 τ1817 4 p1818 0).1) → I1819 91 4 = -1) ∧ fr pFr I1786 I1819) → ((91 = 91 ∧ mj_isk (mk I1819 J)) ∧ (∃ x1821 : Nat, (∃ n1822 : Nat, ((I1819 91 14 = nI x1821 ∧ x1821 ≤ 4 ∧ I1819 95 x1821 = nI n1822 ∧ n1822 < 520) ∧ (∀ I1823 : Nat → Nat → Int32, (I1823 = mj_ui (mj_ui (mj_ui I1819 93 (520 * x1821 + n1822) (0 : Int32)) 94 (520 * x1821 + n1822) (nI (nmV t1816 τ1817 4 p1818 0).2)) 95 x1821 (nI (n1822 + 1))) → (Φ none (mk I1823 J))))))))))))))))))))))) :
    mj_Met Ω l false mX12_atom d 0 0 [.ref 91] (mk I J) Φ := mj_entry (by decide) rfl (fun h => (by cases h)) (Nat.le_of_ble_eq_true rfl) (mj_blk (μ := mX12_atom) (P := pX12_atom) (cut := cutX12_atom) (cs := csX12_atom w) dX12_atom hcs hd 47 0 _ h)
set_option maxHeartbeats 16000000 in
theorem mnX12_atom {w : Nat} (hcs : mj_Cs mX12_atom (5 + 3 * (7 - w) + 0) (csX12_atom w)) {Ω : mj_Om} {l : Launch} {d : Nat} {Φ : Option Value → mj_M → Prop} (hd : (5 + 3 * (7 - w) + 0) ≤ d) (t : Nat) (τ : Nat → Int32) (p : Nat) (n : Nat) (x : Nat) (z : Nat) (I : Nat → Nat → Int32) (J : Nat → Nat → Int64) (hp : w ≤ 6 ∧ prM I t τ p n w x z) (h : ∀ I1 : Nat → Nat → Int32, (wrM (atW t τ w p) t w n x z I I1) → Φ none (mk I1 J)) : mj_Met Ω l false mX12_atom d 0 0 [.ref 91] (mk I J) Φ := by
  refine inX12_atom hcs hd I J ?_
  obtain ⟨hw, hT, h3, hpt, h4, h5, h14, hx, h95, hn⟩ := hp
  have ht := hT.1.1
  have k1 := skp_le (τ := τ) hpt
  have k2 := skp_ge (t := t) (τ := τ) (p := p)
  refine ⟨⟨by trivial, mj_isk_mk _ _⟩, t, τ, p, ⟨hT, h3, by omega⟩, fun A hA => ⟨mj_isk_mk _ _, ?_⟩⟩
  obtain ⟨a1, a2⟩ := hA
  have dA := m_dF a2
  have TA := TM_d hT dA
  have a4 : A 91 4 = -1 := by rw [a2 91 4 (by unfold mFr; omega)]; exact h4
  have a5 : A 91 5 = nI w := by rw [a2 91 5 (by unfold mFr; omega)]; exact h5
  have a14 : A 91 14 = nI x := by rw [d_14 dA]; exact h14
  have a95 : A 95 x = nI n := by rw [d_95 dA]; exact h95
  have cA : CdM A x n [] I := CdM_d (CdM_0 h95) dA
  by_cases qd : isD (nsg t τ p)
  · rw [if_neg (by rw [b2i_e0]; exact fun u => u qd)]
    have q91 : ¬ nsg t τ p = 91 := D_ne (k := 91) qd (by decide) (by decide)
    have eA : atW t τ w p = ngo (numR t τ 4 (skp t τ p)) (fun p1 v => .ok (p1, [nI v])) := by unfold atW atP; rw [if_neg q91, if_pos (ltr_D qd)]
    refine ⟨⟨by trivial, mj_isk_mk _ _⟩, t, τ, skp t τ p, ⟨TA, a1, k1, a4⟩, fun B hB => ?_⟩
    obtain ⟨b3, b4, b4', bP⟩ := hB
    have b5 := p_dF bP
    have nb := pOk_num (τ := τ) k1
    have dB : fr dFr I B := fr_tr dA b5
    obtain ⟨m1, m2, m3, m4⟩ := nmV_b (t := t) (τ := τ) 4 (skp t τ p) 0
    have m5 := m3 k1
    have hlt : skp t τ p < (nmV t τ 4 (skp t τ p) 0).1 := by
      rw [nmV_s (f := 3) qd]
      have := (nmV_b (t := t) (τ := τ) 3 (skp t τ p + 1) (10 * 0 + ((sg t τ (skp t τ p)).toInt - 48).toNat)).1
      omega
    refine ⟨⟨by trivial, mj_isk_mk _ _⟩, x, n, ⟨by rw [d_14 dB]; exact h14, hx, by rw [d_95 dB]; exact h95, by omega⟩, fun C hC => ?_⟩
    have frC : fr (mF x) I C := by rw [hC]; exact fr_put (d_mF dB) (by omega)
    have c3 : C 91 3 = nI (nmV t τ 4 (skp t τ p) 0).1 := by rw [hC, ui_c (by decide), ui_c (by decide), ui_c (by decide)]; exact b3
    have c4 : C 91 4 = B 91 4 := by rw [hC, ui_c (by decide), ui_c (by decide), ui_c (by decide)]
    have c5 : C 91 5 = nI w := by rw [hC, ui_c (by decide), ui_c (by decide), ui_c (by decide), bP 91 5 (by unfold pFr; omega)]; exact a5
    have c95 : C 95 x = nI (n + 1) := by rw [hC, ui_s]
    by_cases w9 : isD (sg t τ (nmV t τ 4 (skp t τ p) 0).1)
    · have eN : numR t τ 4 (skp t τ p) = .error (nmV t τ 4 (skp t τ p) 0).1 := by unfold numR; rw [nsg_skp, cif_t qd, skp_skp, cif_t w9]
      rw [eN] at eA
      exact oM_E h eA (by omega) frC (by rw [c4]; exact b4 w9) c3 (by omega) c95 (by omega)
    · have eN : numR t τ 4 (skp t τ p) = .ok (nmV t τ 4 (skp t τ p) 0) := by unfold numR; rw [nsg_skp, cif_t qd, skp_skp, cif_f w9]
      rw [eN] at eA
      refine oM_O h (q := ((nmV t τ 4 (skp t τ p) 0).1, [nI (nmV t τ 4 (skp t τ p) 0).2])) eA frC c3 (by rw [c4]; exact b4' w9) c5 ?_
      rw [hC]
      exact CdM_up (CdM_d cA b5) rfl (cm_num (by omega))
  rw [if_pos (by rw [b2i_e0]; exact qd)]
  refine ⟨mj_isk_mk _ _, ?_⟩
  by_cases ql : ltr (nsg t τ p) = -1
  case neg =>
    rw [if_neg ql, a1, jn_succ]
    have q91 : ¬ nsg t τ p = 91 := fun q => ql (by rw [q]; decide)
    have hlt : skp t τ p < t := nsg_p rfl (fun w => ql (by rw [w]; decide))
    refine ⟨mj_isk_mk _ _, ⟨by trivial, mj_isk_mk _ _⟩, x, n, ⟨by rw [ui_k (by decide)]; exact a14, hx, by rw [ui_c (by decide)]; exact a95, by omega⟩, fun C hC => ?_⟩
    have dB : fr dFr A (mj_ui A 91 3 (nI (skp t τ p + 1))) := fr_ui fr_rf ⟨rfl, by omega⟩
    refine oM_O h (q := (skp t τ p + 1, [10000 + ltr (nsg t τ p)])) (by unfold atW atP; rw [if_neg q91, if_neg ql]) (by rw [hC]; exact fr_put (fr_tr (d_mF dA) (d_mF dB)) (by omega)) (by rw [hC, ui_c (by decide), ui_c (by decide), ui_c (by decide), ui_s]) (by rw [hC, ui_c (by decide), ui_c (by decide), ui_c (by decide), ui_k (by decide)]; exact a4) (by rw [hC, ui_c (by decide), ui_c (by decide), ui_c (by decide), ui_k (by decide)]; exact a5) ?_
    rw [hC]
    exact CdM_up (CdM_d cA dB) rfl (cm_let (ltr_b ql))
  rw [if_pos ql]
  by_cases q : nsg t τ p = 91
  case neg =>
    rw [if_neg q]
    refine ⟨⟨by trivial, mj_isk_mk _ _⟩, fun B hB => ?_⟩
    have hb : bdV A = nI (skp t τ p) := by unfold bdV; rw [if_pos a4, a1]
    rw [hb] at hB
    have eN : numR t τ 4 (skp t τ p) = .error (skp t τ p) := by unfold numR; rw [nsg_skp, cif_f qd, skp_skp]
    refine oM_E h (e := skp t τ p) (a := skp t τ p) (c := n) (by unfold atW atP; rw [if_neg q, if_pos ql, eN]; rfl) (by omega) (by rw [hB]; exact d_mF (fr_ui dA ⟨rfl, by omega⟩)) (by rw [hB, ui_s]) (by rw [hB, ui_k (by decide)]; exact a1) (by omega) (by rw [hB, ui_c (by decide)]; exact a95) (by omega)
  rw [if_pos q]
  have h3' : skp t τ p < t := nsg_p q (by decide)
  refine ⟨⟨by trivial, mj_isk_mk _ _⟩, skp t τ p, w, ⟨a4, a1, a5, hw⟩, fun B hB => ?_⟩
  obtain ⟨b3, b5, b4, bd⟩ := hB
  have dB : fr dFr I B := fr_tr dA bd
  have b14 : B 91 14 = nI x := by rw [d_14 dB]; exact h14
  have b95 : B 95 x = nI n := by rw [d_95 dB]; exact h95
  by_cases qw : w < 6
  case neg =>
    rw [if_neg qw] at b4
    rw [if_neg (by rw [b4]; exact nI_n1 (by omega))]
    exact oM_E h (e := skp t τ p) (by unfold atW atP; rw [if_pos q, lvl_6 qw]) (by omega) (d_mF dB) b4 b3 (by omega) b95 (by omega)
  rw [if_pos qw] at b4
  rw [if_pos b4]
  have eA : atW t τ w p = pgo (smW t τ (w + 1) (skp t τ p + 1)) (fun p1 xs => if nsg t τ p1 = 93 then .ok (skp t τ p1 + 1, xs) else .error (skp t τ p1)) := by unfold atW atP; rw [if_pos q, lvl_lt qw]
  refine ⟨⟨by trivial, mj_isk_mk _ _⟩, t, τ, skp t τ p + 1, n, x, z, ⟨by omega, TM_d hT dB, b3, h3', b4, b5, b14, hx, b95, by omega⟩, fun C hC => ?_⟩
  obtain ⟨c1, c2, c3⟩ := hC
  have frC : fr (mF x) I C := fr_tr (d_mF dB) c1
  cases hs : smW t τ (w + 1) (skp t τ p + 1) with
  | error e =>
    obtain ⟨e3, g4, a, c, g3, ga, gc, gz⟩ := c2 e hs
    refine ⟨⟨by trivial, mj_isk_mk _ _⟩, t, τ, a, ⟨TM_m hT frC, g3, by omega⟩, fun D hD => ?_⟩
    obtain ⟨d1, -, d3⟩ := hD
    obtain ⟨j1, j2⟩ := d3 (by rw [g4]; exact nI_n1 e3)
    exact oM_E h (by rw [eA, pgo_e hs]) e3 (fr_tr frC (d_mF d1)) (by rw [j2]; exact g4) j1 (by omega) (by rw [d_95 d1]; exact gc) (by omega)
  | ok y =>
    obtain ⟨g3, g4, g5, gC⟩ := c3 y hs
    have yb := (pOk_smW (τ := τ) (w := w + 1) (skp t τ p + 1) h3').2 y hs
    have k3 := skp_le (τ := τ) yb.2.1
    have k4 := skp_ge (t := t) (τ := τ) (p := y.1)
    refine ⟨⟨by trivial, mj_isk_mk _ _⟩, t, τ, y.1, ⟨TM_m hT frC, g3, by omega⟩, fun D hD => ?_⟩
    obtain ⟨d1, d2, -⟩ := hD
    obtain ⟨j3, j4, j5⟩ := d2 g4
    have gC' := CdM_b gC dB
    by_cases u : nsg t τ y.1 = 93
    · rw [if_pos u] at j4
      refine oM_O h (q := (skp t τ y.1 + 1, y.2)) (by rw [eA, pgo_o hs, if_pos u]) (fr_tr frC (d_mF d1)) j3 j4 ?_ (CdM_d gC' d1)
      rw [j5, g5, show (1 : Int32) = nI 1 from rfl, jn_sub (by omega), Nat.add_sub_cancel]
    · rw [if_neg u] at j4
      exact oM_E h (e := skp t τ y.1) (by rw [eA, pgo_o hs, if_neg u]) (by omega) (fr_tr frC (d_mF d1)) j4 j3 (by omega) (by rw [d_95 d1]; exact gC.1) (by omega)
theorem sdX12_atom {w : Nat} (hcs : mj_Cs mX12_atom (5 + 3 * (7 - w) + 0) (csX12_atom w)) : mj_Sd mX12_atom (5 + 3 * (7 - w) + 0) (tX12_atom w) := by
  intro Ω l d hd as M Φ h
  unfold tX12_atom at h
  split at h
  · rename_i z_this
    obtain ⟨⟨rfl, hM⟩, t, τ, p, n, x, z, hp, h⟩ := h
    rw [mj_isk_of hM]
    exact mnX12_atom hcs hd t τ p n x z _ _ hp (by
      rw [mj_isk_of hM] at h
      exact h)
  · exact h.elim
def csX12_term (w : Nat) : List (Nat × Nat × Nat × mj_PT) := [(128, 0, 1, mj_rcv 12 tX12_look), (138, 0, 3, mj_rcv 12 tX12_putS), (156, 0, 1, mj_rcv 12 (tX12_atom w))]
theorem csX12_term_ok {w : Nat} (hw : w ≤ 6) (h_X12_atom : mj_Sd mX12_atom (5 + 3 * (7 - w) + 0) (tX12_atom w)) : mj_Cs mX12_term (5 + 3 * (7 - w) + 1) (csX12_term w) := (mj_CsV (D' := 2) (ci := 12) (q := (RX12, TX12, 45)) sdX12_look (by omega) fX12_look rfl rfl iX12_look vX12_look (by decide +kernel) l12_128 (mj_CsV (D' := 1) (ci := 12) (q := (RX12, TX12, 45)) sdX12_putS (by omega) fX12_put rfl rfl iX12_put vX12_put (by decide +kernel) l12_138 (mj_CsV (D' := (5 + 3 * (7 - w) + 0)) (ci := 12) (q := (RX12, TX12, 45)) h_X12_atom (by omega) fX12_atom rfl rfl iX12_atom vX12_atom (by decide +kernel) l12_156 mj_Cs0)))
def cutX12_term : List (Nat × List Bool) := [(21, [true, true]), (33, [true, true])]
set_option maxRecDepth 100000 in
set_option maxHeartbeats 4000000 in
theorem inX12_term {w : Nat} (hcs : mj_Cs mX12_term (5 + 3 * (7 - w) + 1) (csX12_term w)) {Ω : mj_Om} {l : Launch} {d : Nat} {Φ : Option Value → mj_M → Prop} (hd : (5 + 3 * (7 - w) + 1) ≤ d) (I : Nat → Nat → Int32) (J : Nat → Nat → Int64)
    (h : (((91 = 91 ∧ mj_isk (mk I J)) ∧ (∃ t1862 : Nat, (∃ τ1863 : Nat → Int32, (∃ p1864 : Nat, (∃ n1865 : Nat, (∃ x1866 : Nat, (∃ z1867 : Nat, ((w ≤ 6 ∧ prM I t1862 τ1863 p1864 n1865 w x1866 z1867) ∧ (∀ I1868 : Nat → Nat → Int32, (wrM (atW t1862 τ1863 w p1864) t1862 w n1865 x1866 z1867 I I1868) → (if (I1868 91 4) = (-1 : Int32) then ((91 = 91 ∧ mj_isk (mk I1868 J)) ∧ (∃ t1869 : Nat, (∃ τ1870 : Nat → Int32, (∃ p1871 : Nat, ((TM I1868 t1869 τ1870 ∧ I1868 91 3 = nI p1871 ∧ p1871 ≤ 300) ∧ (∀ I1872 : Nat → Nat → Int32, (I1872 91 3 = nI (skp t1869 τ1870 p1871) ∧ fr mFr I1868 I1872) → (mj_G Ω l false mX12_term d 0 0 Φ 0 0 21 ([some (.ref 91), some (.int (nsg t1869 τ1870 p1871))], [], (mk I1872 J))))))))) else (mj_G Ω l false mX12_term d 0 0 Φ 0 0 21 ([some (.ref 91), some (.int (-1 : Int32))], [], (mk I1868 J))))))))))))))) :
    mj_Met Ω l false mX12_term d 0 0 [.ref 91] (mk I J) Φ := mj_entry (by decide) rfl (fun h => (by cases h)) (Nat.le_of_ble_eq_true rfl) (mj_blk (μ := mX12_term) (P := pX12_term) (cut := cutX12_term) (cs := csX12_term w) dX12_term hcs hd 46 0 _ h)
set_option maxRecDepth 100000 in
set_option maxHeartbeats 4000000 in
theorem bX12_term_21 {w : Nat} (hcs : mj_Cs mX12_term (5 + 3 * (7 - w) + 1) (csX12_term w)) {Ω : mj_Om} {l : Launch} {d : Nat} {Φ : Option Value → mj_M → Prop} (hd : (5 + 3 * (7 - w) + 1) ≤ d) (x1 : Int32) (I : Nat → Nat → Int32) (J : Nat → Nat → Int64)
    (h : ((if x1 = (42 : Int32) then (mj_G Ω l false mX12_term d 0 0 Φ 0 0 33 ([some (.ref 91), some (.int x1)], [], (mk I J))) else (if x1 = (47 : Int32) then (mj_G Ω l false mX12_term d 0 0 Φ 0 0 33 ([some (.ref 91), some (.int x1)], [], (mk I J))) else (Φ none (mk I J)))))) :
    mj_G Ω l false mX12_term d 0 0 Φ 0 0 21 ([some (.ref 91), some (.int x1)], [], mk I J) := mj_blk (μ := mX12_term) (P := pX12_term) (cut := cutX12_term) (cs := csX12_term w) dX12_term hcs hd 46 21 _ h
set_option maxRecDepth 100000 in
set_option maxHeartbeats 4000000 in
theorem bX12_term_33 {w : Nat} (hcs : mj_Cs mX12_term (5 + 3 * (7 - w) + 1) (csX12_term w)) {Ω : mj_Om} {l : Launch} {d : Nat} {Φ : Option Value → mj_M → Prop} (hd : (5 + 3 * (7 - w) + 1) ≤ d) (x1 : Int32) (I : Nat → Nat → Int32) (J : Nat → Nat → Int64)
    (h : (((91 = 91 ∧ mj_isk (mk (mj_ui I 91 3 ((I 91 3) + (1 : Int32))) J)) ∧ (∃ t1874 : Nat, (∃ τ1875 : Nat → Int32, (∃ p1876 : Nat, (∃ n1877 : Nat, (∃ x1878 : Nat, (∃ z1879 : Nat, ((w ≤ 6 ∧ prM (mj_ui I 91 3 ((I 91 3) + (1 : Int32))) t1874 τ1875 p1876 n1877 w x1878 z1879) ∧ (∀ I1880 : Nat → Nat → Int32, (wrM (atW t1874 τ1875 w p1876) t1874 w n1877 x1878 z1879 (mj_ui I 91 3 ((I 91 3) + (1 : Int32))) I1880) → (if x1 = (42 : Int32) then ((91 = 91 ∧ mj_isk (mk I1880 J)) ∧ (∃ x1881 : Nat, (∃ n1882 : Nat, ((I1880 91 14 = nI x1881 ∧ x1881 ≤ 4 ∧ I1880 95 x1881 = nI n1882 ∧ n1882 < 520) ∧ (∀ I1883 : Nat → Nat → Int32, (I1883 = mj_ui (mj_ui (mj_ui I1880 93 (520 * x1881 + n1882) (4 : Int32)) 94 (520 * x1881 + n1882) (0 : Int32)) 95 x1881 (nI (n1882 + 1))) → (if (I1883 91 4) = (-1 : Int32) then ((91 = 91 ∧ mj_isk (mk I1883 J)) ∧ (∃ t1885 : Nat, (∃ τ1886 : Nat → Int32, (∃ p1887 : Nat, ((TM I1883 t1885 τ1886 ∧ I1883 91 3 = nI p1887 ∧ p1887 ≤ 300) ∧ (∀ I1888 : Nat → Nat → Int32, (I1888 91 3 = nI (skp t1885 τ1886 p1887) ∧ fr mFr I1883 I1888) → (mj_G Ω l false mX12_term d 0 0 Φ 0 0 21 ([some (.ref 91), some (.int (nsg t1885 τ1886 p1887))], [], (mk I1888 J))))))))) else (mj_G Ω l false mX12_term d 0 0 Φ 0 0 21 ([some (.ref 91), some (.int (-1 : Int32))], [], (mk I1883 J))))))))) else ((91 = 91 ∧ mj_isk (mk I1880 J)) ∧ (∃ x1890 : Nat, (∃ n1891 : Nat, ((I1880 91 14 = nI x1890 ∧ x1890 ≤ 4 ∧ I1880 95 x1890 = nI n1891 ∧ n1891 < 520) ∧ (∀ I1892 : Nat → Nat → Int32, (I1892 = mj_ui (mj_ui (mj_ui I1880 93 (520 * x1890 + n1891) (5 : Int32)) 94 (520 * x1890 + n1891) (0 : Int32)) 95 x1890 (nI (n1891 + 1))) → (if (I1892 91 4) = (-1 : Int32) then ((91 = 91 ∧ mj_isk (mk I1892 J)) ∧ (∃ t1894 : Nat, (∃ τ1895 : Nat → Int32, (∃ p1896 : Nat, ((TM I1892 t1894 τ1895 ∧ I1892 91 3 = nI p1896 ∧ p1896 ≤ 300) ∧ (∀ I1897 : Nat → Nat → Int32, (I1897 91 3 = nI (skp t1894 τ1895 p1896) ∧ fr mFr I1892 I1897) → (mj_G Ω l false mX12_term d 0 0 Φ 0 0 21 ([some (.ref 91), some (.int (nsg t1894 τ1895 p1896))], [], (mk I1897 J))))))))) else (mj_G Ω l false mX12_term d 0 0 Φ 0 0 21 ([some (.ref 91), some (.int (-1 : Int32))], [], (mk I1892 J))))))))))))))))))))) :
    mj_G Ω l false mX12_term d 0 0 Φ 0 0 33 ([some (.ref 91), some (.int x1)], [], mk I J) := mj_blk (μ := mX12_term) (P := pX12_term) (cut := cutX12_term) (cs := csX12_term w) dX12_term hcs hd 46 33 _ h
set_option maxHeartbeats 16000000 in
theorem mnX12_term {w : Nat} (hcs : mj_Cs mX12_term (5 + 3 * (7 - w) + 1) (csX12_term w)) {Ω : mj_Om} {l : Launch} {d : Nat} {Φ : Option Value → mj_M → Prop} (hd : (5 + 3 * (7 - w) + 1) ≤ d) (t : Nat) (τ : Nat → Int32) (p : Nat) (n : Nat) (x : Nat) (z : Nat) (I : Nat → Nat → Int32) (J : Nat → Nat → Int64) (hp : w ≤ 6 ∧ prM I t τ p n w x z) (h : ∀ I1 : Nat → Nat → Int32, (wrM (tmW t τ w p) t w n x z I I1) → Φ none (mk I1 J)) : mj_Met Ω l false mX12_term d 0 0 [.ref 91] (mk I J) Φ := by
  refine inX12_term hcs hd I J ?_
  obtain ⟨hw, hT, h3, hpt, h4, h5, h14, hx, h95, hn⟩ := hp
  have ht := hT.1.1
  have bye : ∀ A : Nat → Nat → Int32, Φ none (mk A J) → mj_G Ω l false mX12_term d 0 0 Φ 0 0 21 ([some (.ref 91), some (.int (-1 : Int32))], [], mk A J) := fun A hA => by
    refine bX12_term_21 hcs hd (-1) A J ?_
    rw [if_neg (by decide), if_neg (by decide)]
    exact hA
  refine ⟨⟨by trivial, mj_isk_mk _ _⟩, t, τ, p, n, x, z, ⟨hw, hT, h3, hpt, h4, h5, h14, hx, h95, hn⟩, fun A hA => ?_⟩
  obtain ⟨a1, a2, a3⟩ := hA
  have key : ∀ (f q : Nat) (xs : List Int32) (B : Nat → Nat → Int32), t + 1 ≤ q + f → q ≤ t → n + xs.length + z ≤ q → B 91 3 = nI (skp t τ q) → B 91 4 = -1 → B 91 5 = nI w → CdM B x n xs I → fr (mF x) I B → tmW t τ w p = lpP t τ opT (atW t τ w) f q xs → mj_G Ω l false mX12_term d 0 0 Φ 0 0 21 ([some (.ref 91), some (.int (nsg t τ q))], [], mk B J) := by
    intro f
    induction f with
    | zero => intro q xs B hf hq hl b3 b4 b5 bC bF he; omega
    | succ f ih =>
      intro q xs B hf hq hl b3 b4 b5 bC bF he
      have k1 := skp_le (τ := τ) hq
      have k2 := skp_ge (t := t) (τ := τ) (p := q)
      rw [lpP] at he
      refine bX12_term_21 hcs hd (nsg t τ q) B J ?_
      have go : ¬ opT (nsg t τ q) = 0 → mj_G Ω l false mX12_term d 0 0 Φ 0 0 33 ([some (.ref 91), some (.int (nsg t τ q))], [], mk B J) := by
        intro zo
        rw [if_neg zo] at he
        have h3' : skp t τ q < t := nsg_p rfl (fun w => zo (by rw [w]; decide))
        refine bX12_term_33 hcs hd (nsg t τ q) B J ?_
        rw [b3, jn_succ]
        have dC : fr dFr B (mj_ui B 91 3 (nI (skp t τ q + 1))) := fr_ui fr_rf ⟨rfl, by omega⟩
        have frC : fr (mF x) I (mj_ui B 91 3 (nI (skp t τ q + 1))) := fr_tr bF (d_mF dC)
        refine ⟨⟨by trivial, mj_isk_mk _ _⟩, t, τ, skp t τ q + 1, n + xs.length, x, z + 1, ⟨hw, TM_m hT frC, ui_s, h3', by rw [ui_k (by decide)]; exact b4, by rw [ui_k (by decide)]; exact b5, by rw [mF_14 frC]; exact h14, hx, by rw [ui_c (by decide)]; exact bC.1, by omega⟩, fun E hE => ?_⟩
        obtain ⟨e1, e2, e3⟩ := hE
        have frE : fr (mF x) I E := fr_tr frC e1
        have e14 : E 91 14 = nI x := by rw [mF_14 frE]; exact h14
        have put : ∀ (c v : Int32), cmR c v (opT (nsg t τ q)) → ((91 = 91 ∧ mj_isk (mk E J)) ∧ ∃ x1 : Nat, ∃ n1 : Nat, (E 91 14 = nI x1 ∧ x1 ≤ 4 ∧ E 95 x1 = nI n1 ∧ n1 < 520) ∧ ∀ I1 : Nat → Nat → Int32, (I1 = mj_ui (mj_ui (mj_ui E 93 (520 * x1 + n1) c) 94 (520 * x1 + n1) v) 95 x1 (nI (n1 + 1))) → (if (I1 91 4) = (-1 : Int32) then ((91 = 91 ∧ mj_isk (mk I1 J)) ∧ ∃ t1 : Nat, ∃ τ1 : Nat → Int32, ∃ p1 : Nat, (TM I1 t1 τ1 ∧ I1 91 3 = nI p1 ∧ p1 ≤ 300) ∧ ∀ I2 : Nat → Nat → Int32, (I2 91 3 = nI (skp t1 τ1 p1) ∧ fr mFr I1 I2) → (mj_G Ω l false mX12_term d 0 0 Φ 0 0 21 ([some (.ref 91), some (.int (nsg t1 τ1 p1))], [], mk I2 J))) else (mj_G Ω l false mX12_term d 0 0 Φ 0 0 21 ([some (.ref 91), some (.int (-1 : Int32))], [], mk I1 J)))) := by
          intro c v hcv
          cases hs : atW t τ w (skp t τ q + 1) with
          | error e =>
            obtain ⟨i3, g4, a, c', g3, ga, gc, gz⟩ := e2 e hs
            refine ⟨⟨by trivial, mj_isk_mk _ _⟩, x, c', ⟨e14, hx, gc, by omega⟩, fun K hK => ?_⟩
            have k4 : K 91 4 = nI e := by rw [hK, ui_c (by decide), ui_c (by decide), ui_c (by decide)]; exact g4
            rw [if_neg (by rw [k4]; exact nI_n1 i3)]
            refine bye K (oM_E h (by rw [he, pgo_e hs]) i3 (by rw [hK]; exact fr_put frE (by omega)) k4 (by rw [hK, ui_c (by decide), ui_c (by decide), ui_c (by decide)]; exact g3) ga (by rw [hK, ui_s]) (by omega))
          | ok r =>
            obtain ⟨g3, g4, g5, gC⟩ := e3 r hs
            have rb := (pOk_atW (τ := τ) (w := w) (skp t τ q + 1) h3').2 r hs
            rw [pgo_o hs] at he
            have CE := CdM_app bC (CdM_b gC dC)
            refine ⟨⟨by trivial, mj_isk_mk _ _⟩, x, n + xs.length + r.2.length, ⟨e14, hx, gC.1, by omega⟩, fun K hK => ?_⟩
            have k3' : K 91 3 = nI r.1 := by rw [hK, ui_c (by decide), ui_c (by decide), ui_c (by decide)]; exact g3
            have k4 : K 91 4 = -1 := by rw [hK, ui_c (by decide), ui_c (by decide), ui_c (by decide)]; exact g4
            have k5 : K 91 5 = nI w := by rw [hK, ui_c (by decide), ui_c (by decide), ui_c (by decide)]; exact g5
            have frK : fr (mF x) I K := by rw [hK]; exact fr_put frE (by omega)
            have CK : CdM K x n (xs ++ r.2 ++ [opT (nsg t τ q)]) I := by rw [hK]; exact CdM_up CE (by rw [List.length_append]; omega) hcv
            rw [if_pos k4]
            refine ⟨⟨by trivial, mj_isk_mk _ _⟩, t, τ, r.1, ⟨TM_m hT frK, k3', by omega⟩, fun L hL => ?_⟩
            have dL := m_dF hL.2
            exact ih r.1 _ L (by omega) rb.2.1 (by rw [List.length_append, List.length_append, List.length_singleton]; omega) hL.1 (by rw [hL.2 91 4 (by unfold mFr; omega)]; exact k4) (by rw [hL.2 91 5 (by unfold mFr; omega)]; exact k5) (CdM_d CK dL) (fr_tr frK (d_mF dL)) he
        by_cases s1 : nsg t τ q = 42
        · rw [if_pos s1]
          exact put _ _ (by rw [s1]; exact ⟨by decide, by decide, fun q => absurd q (by decide), fun q => absurd q (by decide)⟩)
        · rw [if_neg s1]
          have s2 : nsg t τ q = 47 := Classical.byContradiction (fun y => zo (by unfold opT; rw [if_neg s1, if_neg y]))
          exact put _ _ (by rw [s2]; exact ⟨by decide, by decide, fun q => absurd q (by decide), fun q => absurd q (by decide)⟩)
      by_cases s1 : nsg t τ q = 42
      · rw [if_pos s1]; exact go (by rw [s1]; decide)
      rw [if_neg s1]
      by_cases s2 : nsg t τ q = 47
      · rw [if_pos s2]; exact go (by rw [s2]; decide)
      rw [if_neg s2]
      exact oM_O h (q := (skp t τ q, xs)) (by rw [he, if_pos (by unfold opT; rw [if_neg s1, if_neg s2])]) bF b3 b4 b5 bC
  cases hs : atW t τ w p with
  | error e =>
    obtain ⟨i3, g4, a, c', g3, ga, gc, gz⟩ := a2 e hs
    rw [if_neg (by rw [g4]; exact nI_n1 i3)]
    exact bye A (oM_E h (by unfold tmW gnQ; exact pgo_e hs) i3 a1 g4 g3 ga gc gz)
  | ok y =>
    obtain ⟨g3, g4, g5, gC⟩ := a3 y hs
    have yb := (pOk_atW (τ := τ) (w := w) p hpt).2 y hs
    rw [if_pos g4]
    refine ⟨⟨by trivial, mj_isk_mk _ _⟩, t, τ, y.1, ⟨TM_m hT a1, g3, by omega⟩, fun L hL => ?_⟩
    have dL := m_dF hL.2
    exact key (t + 1 - y.1) y.1 y.2 L (by omega) yb.2.1 (by omega) hL.1 (by rw [hL.2 91 4 (by unfold mFr; omega)]; exact g4) (by rw [hL.2 91 5 (by unfold mFr; omega)]; exact g5) (CdM_d gC dL) (fr_tr a1 (d_mF dL)) (by unfold tmW gnQ; exact pgo_o hs)
theorem sdX12_term {w : Nat} (hcs : mj_Cs mX12_term (5 + 3 * (7 - w) + 1) (csX12_term w)) : mj_Sd mX12_term (5 + 3 * (7 - w) + 1) (tX12_term w) := by
  intro Ω l d hd as M Φ h
  unfold tX12_term at h
  split at h
  · rename_i z_this
    obtain ⟨⟨rfl, hM⟩, t, τ, p, n, x, z, hp, h⟩ := h
    rw [mj_isk_of hM]
    exact mnX12_term hcs hd t τ p n x z _ _ hp (by
      rw [mj_isk_of hM] at h
      exact h)
  · exact h.elim
def csX12_sum (w : Nat) : List (Nat × Nat × Nat × mj_PT) := [(128, 0, 1, mj_rcv 12 tX12_look), (138, 0, 3, mj_rcv 12 tX12_putS), (159, 0, 1, mj_rcv 12 (tX12_term w))]
theorem csX12_sum_ok {w : Nat} (hw : w ≤ 6) (h_X12_term : mj_Sd mX12_term (5 + 3 * (7 - w) + 1) (tX12_term w)) : mj_Cs mX12_sum (5 + 3 * (7 - w) + 2) (csX12_sum w) := (mj_CsV (D' := 2) (ci := 12) (q := (RX12, TX12, 45)) sdX12_look (by omega) fX12_look rfl rfl iX12_look vX12_look (by decide +kernel) l12_128 (mj_CsV (D' := 1) (ci := 12) (q := (RX12, TX12, 45)) sdX12_putS (by omega) fX12_put rfl rfl iX12_put vX12_put (by decide +kernel) l12_138 (mj_CsV (D' := (5 + 3 * (7 - w) + 1)) (ci := 12) (q := (RX12, TX12, 45)) h_X12_term (by omega) fX12_term rfl rfl iX12_term vX12_term (by decide +kernel) l12_159 mj_Cs0)))
def cutX12_sum : List (Nat × List Bool) := [(21, [true, true]), (33, [true, true])]
set_option maxRecDepth 100000 in
set_option maxHeartbeats 4000000 in
theorem inX12_sum {w : Nat} (hcs : mj_Cs mX12_sum (5 + 3 * (7 - w) + 2) (csX12_sum w)) {Ω : mj_Om} {l : Launch} {d : Nat} {Φ : Option Value → mj_M → Prop} (hd : (5 + 3 * (7 - w) + 2) ≤ d) (I : Nat → Nat → Int32) (J : Nat → Nat → Int64)
    (h : (((91 = 91 ∧ mj_isk (mk I J)) ∧ (∃ t1936 : Nat, (∃ τ1937 : Nat → Int32, (∃ p1938 : Nat, (∃ n1939 : Nat, (∃ x1940 : Nat, (∃ z1941 : Nat, ((w ≤ 6 ∧ prM I t1936 τ1937 p1938 n1939 w x1940 z1941) ∧ (∀ I1942 : Nat → Nat → Int32, (wrM (tmW t1936 τ1937 w p1938) t1936 w n1939 x1940 z1941 I I1942) → (if (I1942 91 4) = (-1 : Int32) then ((91 = 91 ∧ mj_isk (mk I1942 J)) ∧ (∃ t1943 : Nat, (∃ τ1944 : Nat → Int32, (∃ p1945 : Nat, ((TM I1942 t1943 τ1944 ∧ I1942 91 3 = nI p1945 ∧ p1945 ≤ 300) ∧ (∀ I1946 : Nat → Nat → Int32, (I1946 91 3 = nI (skp t1943 τ1944 p1945) ∧ fr mFr I1942 I1946) → (mj_G Ω l false mX12_sum d 0 0 Φ 0 0 21 ([some (.ref 91), some (.int (nsg t1943 τ1944 p1945))], [], (mk I1946 J))))))))) else (mj_G Ω l false mX12_sum d 0 0 Φ 0 0 21 ([some (.ref 91), some (.int (-1 : Int32))], [], (mk I1942 J))))))))))))))) :
    mj_Met Ω l false mX12_sum d 0 0 [.ref 91] (mk I J) Φ := mj_entry (by decide) rfl (fun h => (by cases h)) (Nat.le_of_ble_eq_true rfl) (mj_blk (μ := mX12_sum) (P := pX12_sum) (cut := cutX12_sum) (cs := csX12_sum w) dX12_sum hcs hd 46 0 _ h)
set_option maxRecDepth 100000 in
set_option maxHeartbeats 4000000 in
theorem bX12_sum_21 {w : Nat} (hcs : mj_Cs mX12_sum (5 + 3 * (7 - w) + 2) (csX12_sum w)) {Ω : mj_Om} {l : Launch} {d : Nat} {Φ : Option Value → mj_M → Prop} (hd : (5 + 3 * (7 - w) + 2) ≤ d) (x1 : Int32) (I : Nat → Nat → Int32) (J : Nat → Nat → Int64)
    (h : ((if x1 = (43 : Int32) then (mj_G Ω l false mX12_sum d 0 0 Φ 0 0 33 ([some (.ref 91), some (.int x1)], [], (mk I J))) else (if x1 = (45 : Int32) then (mj_G Ω l false mX12_sum d 0 0 Φ 0 0 33 ([some (.ref 91), some (.int x1)], [], (mk I J))) else (Φ none (mk I J)))))) :
    mj_G Ω l false mX12_sum d 0 0 Φ 0 0 21 ([some (.ref 91), some (.int x1)], [], mk I J) := mj_blk (μ := mX12_sum) (P := pX12_sum) (cut := cutX12_sum) (cs := csX12_sum w) dX12_sum hcs hd 46 21 _ h
set_option maxRecDepth 100000 in
set_option maxHeartbeats 4000000 in
theorem bX12_sum_33 {w : Nat} (hcs : mj_Cs mX12_sum (5 + 3 * (7 - w) + 2) (csX12_sum w)) {Ω : mj_Om} {l : Launch} {d : Nat} {Φ : Option Value → mj_M → Prop} (hd : (5 + 3 * (7 - w) + 2) ≤ d) (x1 : Int32) (I : Nat → Nat → Int32) (J : Nat → Nat → Int64)
    (h : (((91 = 91 ∧ mj_isk (mk (mj_ui I 91 3 ((I 91 3) + (1 : Int32))) J)) ∧ (∃ t1948 : Nat, (∃ τ1949 : Nat → Int32, (∃ p1950 : Nat, (∃ n1951 : Nat, (∃ x1952 : Nat, (∃ z1953 : Nat, ((w ≤ 6 ∧ prM (mj_ui I 91 3 ((I 91 3) + (1 : Int32))) t1948 τ1949 p1950 n1951 w x1952 z1953) ∧ (∀ I1954 : Nat → Nat → Int32, (wrM (tmW t1948 τ1949 w p1950) t1948 w n1951 x1952 z1953 (mj_ui I 91 3 ((I 91 3) + (1 : Int32))) I1954) → (if x1 = (43 : Int32) then ((91 = 91 ∧ mj_isk (mk I1954 J)) ∧ (∃ x1955 : Nat, (∃ n1956 : Nat, ((I1954 91 14 = nI x1955 ∧ x1955 ≤ 4 ∧ I1954 95 x1955 = nI n1956 ∧ n1956 < 520) ∧ (∀ I1957 : Nat → Nat → Int32, (I1957 = mj_ui (mj_ui (mj_ui I1954 93 (520 * x1955 + n1956) (2 : Int32)) 94 (520 * x1955 + n1956) (0 : Int32)) 95 x1955 (nI (n1956 + 1))) → (if (I1957 91 4) = (-1 : Int32) then ((91 = 91 ∧ mj_isk (mk I1957 J)) ∧ (∃ t1959 : Nat, (∃ τ1960 : Nat → Int32, (∃ p1961 : Nat, ((TM I1957 t1959 τ1960 ∧ I1957 91 3 = nI p1961 ∧ p1961 ≤ 300) ∧ (∀ I1962 : Nat → Nat → Int32, (I1962 91 3 = nI (skp t1959 τ1960 p1961) ∧ fr mFr I1957 I1962) → (mj_G Ω l false mX12_sum d 0 0 Φ 0 0 21 ([some (.ref 91), some (.int (nsg t1959 τ1960 p1961))], [], (mk I1962 J))))))))) else (mj_G Ω l false mX12_sum d 0 0 Φ 0 0 21 ([some (.ref 91), some (.int (-1 : Int32))], [], (mk I1957 J))))))))) else ((91 = 91 ∧ mj_isk (mk I1954 J)) ∧ (∃ x1964 : Nat, (∃ n1965 : Nat, ((I1954 91 14 = nI x1964 ∧ x1964 ≤ 4 ∧ I1954 95 x1964 = nI n1965 ∧ n1965 < 520) ∧ (∀ I1966 : Nat → Nat → Int32, (I1966 = mj_ui (mj_ui (mj_ui I1954 93 (520 * x1964 + n1965) (3 : Int32)) 94 (520 * x1964 + n1965) (0 : Int32)) 95 x1964 (nI (n1965 + 1))) → (if (I1966 91 4) = (-1 : Int32) then ((91 = 91 ∧ mj_isk (mk I1966 J)) ∧ (∃ t1968 : Nat, (∃ τ1969 : Nat → Int32, (∃ p1970 : Nat, ((TM I1966 t1968 τ1969 ∧ I1966 91 3 = nI p1970 ∧ p1970 ≤ 300) ∧ (∀ I1971 : Nat → Nat → Int32, (I1971 91 3 = nI (skp t1968 τ1969 p1970) ∧ fr mFr I1966 I1971) → (mj_G Ω l false mX12_sum d 0 0 Φ 0 0 21 ([some (.ref 91), some (.int (nsg t1968 τ1969 p1970))], [], (mk I1971 J))))))))) else (mj_G Ω l false mX12_sum d 0 0 Φ 0 0 21 ([some (.ref 91), some (.int (-1 : Int32))], [], (mk I1966 J))))))))))))))))))))) :
    mj_G Ω l false mX12_sum d 0 0 Φ 0 0 33 ([some (.ref 91), some (.int x1)], [], mk I J) := mj_blk (μ := mX12_sum) (P := pX12_sum) (cut := cutX12_sum) (cs := csX12_sum w) dX12_sum hcs hd 46 33 _ h
set_option maxHeartbeats 16000000 in
theorem mnX12_sum {w : Nat} (hcs : mj_Cs mX12_sum (5 + 3 * (7 - w) + 2) (csX12_sum w)) {Ω : mj_Om} {l : Launch} {d : Nat} {Φ : Option Value → mj_M → Prop} (hd : (5 + 3 * (7 - w) + 2) ≤ d) (t : Nat) (τ : Nat → Int32) (p : Nat) (n : Nat) (x : Nat) (z : Nat) (I : Nat → Nat → Int32) (J : Nat → Nat → Int64) (hp : w ≤ 6 ∧ prM I t τ p n w x z) (h : ∀ I1 : Nat → Nat → Int32, (wrM (smW t τ w p) t w n x z I I1) → Φ none (mk I1 J)) : mj_Met Ω l false mX12_sum d 0 0 [.ref 91] (mk I J) Φ := by
  refine inX12_sum hcs hd I J ?_
  obtain ⟨hw, hT, h3, hpt, h4, h5, h14, hx, h95, hn⟩ := hp
  have ht := hT.1.1
  have bye : ∀ A : Nat → Nat → Int32, Φ none (mk A J) → mj_G Ω l false mX12_sum d 0 0 Φ 0 0 21 ([some (.ref 91), some (.int (-1 : Int32))], [], mk A J) := fun A hA => by
    refine bX12_sum_21 hcs hd (-1) A J ?_
    rw [if_neg (by decide), if_neg (by decide)]
    exact hA
  refine ⟨⟨by trivial, mj_isk_mk _ _⟩, t, τ, p, n, x, z, ⟨hw, hT, h3, hpt, h4, h5, h14, hx, h95, hn⟩, fun A hA => ?_⟩
  obtain ⟨a1, a2, a3⟩ := hA
  have key : ∀ (f q : Nat) (xs : List Int32) (B : Nat → Nat → Int32), t + 1 ≤ q + f → q ≤ t → n + xs.length + z ≤ q → B 91 3 = nI (skp t τ q) → B 91 4 = -1 → B 91 5 = nI w → CdM B x n xs I → fr (mF x) I B → smW t τ w p = lpP t τ opS (tmW t τ w) f q xs → mj_G Ω l false mX12_sum d 0 0 Φ 0 0 21 ([some (.ref 91), some (.int (nsg t τ q))], [], mk B J) := by
    intro f
    induction f with
    | zero => intro q xs B hf hq hl b3 b4 b5 bC bF he; omega
    | succ f ih =>
      intro q xs B hf hq hl b3 b4 b5 bC bF he
      have k1 := skp_le (τ := τ) hq
      have k2 := skp_ge (t := t) (τ := τ) (p := q)
      rw [lpP] at he
      refine bX12_sum_21 hcs hd (nsg t τ q) B J ?_
      have go : ¬ opS (nsg t τ q) = 0 → mj_G Ω l false mX12_sum d 0 0 Φ 0 0 33 ([some (.ref 91), some (.int (nsg t τ q))], [], mk B J) := by
        intro zo
        rw [if_neg zo] at he
        have h3' : skp t τ q < t := nsg_p rfl (fun w => zo (by rw [w]; decide))
        refine bX12_sum_33 hcs hd (nsg t τ q) B J ?_
        rw [b3, jn_succ]
        have dC : fr dFr B (mj_ui B 91 3 (nI (skp t τ q + 1))) := fr_ui fr_rf ⟨rfl, by omega⟩
        have frC : fr (mF x) I (mj_ui B 91 3 (nI (skp t τ q + 1))) := fr_tr bF (d_mF dC)
        refine ⟨⟨by trivial, mj_isk_mk _ _⟩, t, τ, skp t τ q + 1, n + xs.length, x, z + 1, ⟨hw, TM_m hT frC, ui_s, h3', by rw [ui_k (by decide)]; exact b4, by rw [ui_k (by decide)]; exact b5, by rw [mF_14 frC]; exact h14, hx, by rw [ui_c (by decide)]; exact bC.1, by omega⟩, fun E hE => ?_⟩
        obtain ⟨e1, e2, e3⟩ := hE
        have frE : fr (mF x) I E := fr_tr frC e1
        have e14 : E 91 14 = nI x := by rw [mF_14 frE]; exact h14
        have put : ∀ (c v : Int32), cmR c v (opS (nsg t τ q)) → ((91 = 91 ∧ mj_isk (mk E J)) ∧ ∃ x1 : Nat, ∃ n1 : Nat, (E 91 14 = nI x1 ∧ x1 ≤ 4 ∧ E 95 x1 = nI n1 ∧ n1 < 520) ∧ ∀ I1 : Nat → Nat → Int32, (I1 = mj_ui (mj_ui (mj_ui E 93 (520 * x1 + n1) c) 94 (520 * x1 + n1) v) 95 x1 (nI (n1 + 1))) → (if (I1 91 4) = (-1 : Int32) then ((91 = 91 ∧ mj_isk (mk I1 J)) ∧ ∃ t1 : Nat, ∃ τ1 : Nat → Int32, ∃ p1 : Nat, (TM I1 t1 τ1 ∧ I1 91 3 = nI p1 ∧ p1 ≤ 300) ∧ ∀ I2 : Nat → Nat → Int32, (I2 91 3 = nI (skp t1 τ1 p1) ∧ fr mFr I1 I2) → (mj_G Ω l false mX12_sum d 0 0 Φ 0 0 21 ([some (.ref 91), some (.int (nsg t1 τ1 p1))], [], mk I2 J))) else (mj_G Ω l false mX12_sum d 0 0 Φ 0 0 21 ([some (.ref 91), some (.int (-1 : Int32))], [], mk I1 J)))) := by
          intro c v hcv
          cases hs : tmW t τ w (skp t τ q + 1) with
          | error e =>
            obtain ⟨i3, g4, a, c', g3, ga, gc, gz⟩ := e2 e hs
            refine ⟨⟨by trivial, mj_isk_mk _ _⟩, x, c', ⟨e14, hx, gc, by omega⟩, fun K hK => ?_⟩
            have k4 : K 91 4 = nI e := by rw [hK, ui_c (by decide), ui_c (by decide), ui_c (by decide)]; exact g4
            rw [if_neg (by rw [k4]; exact nI_n1 i3)]
            refine bye K (oM_E h (by rw [he, pgo_e hs]) i3 (by rw [hK]; exact fr_put frE (by omega)) k4 (by rw [hK, ui_c (by decide), ui_c (by decide), ui_c (by decide)]; exact g3) ga (by rw [hK, ui_s]) (by omega))
          | ok r =>
            obtain ⟨g3, g4, g5, gC⟩ := e3 r hs
            have rb := (pOk_tmW (τ := τ) (w := w) (skp t τ q + 1) h3').2 r hs
            rw [pgo_o hs] at he
            have CE := CdM_app bC (CdM_b gC dC)
            refine ⟨⟨by trivial, mj_isk_mk _ _⟩, x, n + xs.length + r.2.length, ⟨e14, hx, gC.1, by omega⟩, fun K hK => ?_⟩
            have k3' : K 91 3 = nI r.1 := by rw [hK, ui_c (by decide), ui_c (by decide), ui_c (by decide)]; exact g3
            have k4 : K 91 4 = -1 := by rw [hK, ui_c (by decide), ui_c (by decide), ui_c (by decide)]; exact g4
            have k5 : K 91 5 = nI w := by rw [hK, ui_c (by decide), ui_c (by decide), ui_c (by decide)]; exact g5
            have frK : fr (mF x) I K := by rw [hK]; exact fr_put frE (by omega)
            have CK : CdM K x n (xs ++ r.2 ++ [opS (nsg t τ q)]) I := by rw [hK]; exact CdM_up CE (by rw [List.length_append]; omega) hcv
            rw [if_pos k4]
            refine ⟨⟨by trivial, mj_isk_mk _ _⟩, t, τ, r.1, ⟨TM_m hT frK, k3', by omega⟩, fun L hL => ?_⟩
            have dL := m_dF hL.2
            exact ih r.1 _ L (by omega) rb.2.1 (by rw [List.length_append, List.length_append, List.length_singleton]; omega) hL.1 (by rw [hL.2 91 4 (by unfold mFr; omega)]; exact k4) (by rw [hL.2 91 5 (by unfold mFr; omega)]; exact k5) (CdM_d CK dL) (fr_tr frK (d_mF dL)) he
        by_cases s1 : nsg t τ q = 43
        · rw [if_pos s1]
          exact put _ _ (by rw [s1]; exact ⟨by decide, by decide, fun q => absurd q (by decide), fun q => absurd q (by decide)⟩)
        · rw [if_neg s1]
          have s2 : nsg t τ q = 45 := Classical.byContradiction (fun y => zo (by unfold opS; rw [if_neg s1, if_neg y]))
          exact put _ _ (by rw [s2]; exact ⟨by decide, by decide, fun q => absurd q (by decide), fun q => absurd q (by decide)⟩)
      by_cases s1 : nsg t τ q = 43
      · rw [if_pos s1]; exact go (by rw [s1]; decide)
      rw [if_neg s1]
      by_cases s2 : nsg t τ q = 45
      · rw [if_pos s2]; exact go (by rw [s2]; decide)
      rw [if_neg s2]
      exact oM_O h (q := (skp t τ q, xs)) (by rw [he, if_pos (by unfold opS; rw [if_neg s1, if_neg s2])]) bF b3 b4 b5 bC
  cases hs : tmW t τ w p with
  | error e =>
    obtain ⟨i3, g4, a, c', g3, ga, gc, gz⟩ := a2 e hs
    rw [if_neg (by rw [g4]; exact nI_n1 i3)]
    exact bye A (oM_E h (by unfold smW gnQ; exact pgo_e hs) i3 a1 g4 g3 ga gc gz)
  | ok y =>
    obtain ⟨g3, g4, g5, gC⟩ := a3 y hs
    have yb := (pOk_tmW (τ := τ) (w := w) p hpt).2 y hs
    rw [if_pos g4]
    refine ⟨⟨by trivial, mj_isk_mk _ _⟩, t, τ, y.1, ⟨TM_m hT a1, g3, by omega⟩, fun L hL => ?_⟩
    have dL := m_dF hL.2
    exact key (t + 1 - y.1) y.1 y.2 L (by omega) yb.2.1 (by omega) hL.1 (by rw [hL.2 91 4 (by unfold mFr; omega)]; exact g4) (by rw [hL.2 91 5 (by unfold mFr; omega)]; exact g5) (CdM_d gC dL) (fr_tr a1 (d_mF dL)) (by unfold smW gnQ; exact pgo_o hs)
theorem sdX12_sum {w : Nat} (hcs : mj_Cs mX12_sum (5 + 3 * (7 - w) + 2) (csX12_sum w)) : mj_Sd mX12_sum (5 + 3 * (7 - w) + 2) (tX12_sum w) := by
  intro Ω l d hd as M Φ h
  unfold tX12_sum at h
  split at h
  · rename_i z_this
    obtain ⟨⟨rfl, hM⟩, t, τ, p, n, x, z, hp, h⟩ := h
    rw [mj_isk_of hM]
    exact mnX12_sum hcs hd t τ p n x z _ _ hp (by
      rw [mj_isk_of hM] at h
      exact h)
  · exact h.elim
theorem sdX12_sumA : ∀ (k w : Nat), 7 - w = k → mj_Sd mX12_sum (5 + 3 * (7 - w) + 2) (tX12_sum w) := by
  intro k
  induction k with
  | zero =>
    intro w hw Ω l d hd as M Φ h
    unfold tX12_sum at h
    split at h
    · obtain ⟨-, t, τ, p, n, x, z, ⟨q, -⟩, -⟩ := h
      omega
    · exact h.elim
  | succ k ih =>
    intro w hw
    have hs := ih (w + 1) (by omega)
    exact sdX12_sum (csX12_sum_ok (by omega) (sdX12_term (csX12_term_ok (by omega) (sdX12_atom (csX12_atom_ok (by omega) hs)))))
