/-! ===== text on both sides (by program, wip/whole/p92.py) ===== -/
theorem CLM_r {I I1 : Nat → Nat → Int32} {r m : Nat} {cs : List (List Int32 × List Int32)} (hr : r < m) (h : CLM I r cs) (e3 : ∀ k, k < 520 * m → I1 93 k = I 93 k ∧ I1 94 k = I 94 k) (e6 : ∀ k, k < m → I1 96 k = I 96 k) (e7 : ∀ k, k < 140 * m → I1 97 k = I 97 k ∧ I1 98 k = I 98 k ∧ I1 99 k = I 99 k) : CLM I1 r cs := by
  obtain ⟨h1, h2, h3, h4⟩ := h
  refine ⟨h1, h2, by rw [e6 r hr]; exact h3, fun c hc => ?_⟩
  obtain ⟨g0, g1, g2, g3, g4, g5⟩ := h4 c hc
  obtain ⟨x1, x2, x3⟩ := e7 (140 * r + c) (by omega)
  exact ⟨g0, by rw [x1]; exact g1, by rw [x2]; exact g2, by rw [x3]; exact g3, fun j hj => by rw [(e3 _ (by omega)).1, (e3 _ (by omega)).2]; exact g4 j hj, fun j hj => by rw [(e3 _ (by omega)).1, (e3 _ (by omega)).2]; exact g5 j hj⟩
def ruF (m c k : Nat) : Prop := (c = 1 ∧ (k = 1 ∨ k = 2)) ∨ (c = 24 ∧ k = 2) ∨ c = 25 ∨ (c = 3 ∧ k = 3) ∨ (c = 9 ∧ k = m) ∨ c = 5 + m ∨ (c = 91 ∧ (k = 2 ∨ k = 3 ∨ k = 4 ∨ k = 5 ∨ k = 13 ∨ k = 14)) ∨ ((c = 93 ∨ c = 94) ∧ 520 * m ≤ k) ∨ ((c = 95 ∨ c = 96) ∧ k = m) ∨ ((c = 97 ∨ c = 98 ∨ c = 99) ∧ 140 * m ≤ k)
set_option maxHeartbeats 4000000 in
theorem Rel_rule {I I3 : Nat → Nat → Int32} {m : Nat} {K : KT} {ks : List (List Int32 × List Int32)} (h : Rel I) (hm : m < 4) (hRK : RK I m K) (hRM : RKM I m K) (hks : (flatK 0 ks).length ≤ 240 ∧ ∀ c ∈ ks, clOk c) (c1 : I3 1 1 = 0) (c2 : I3 91 2 = 0) (c3 : I3 3 3 = nI (m + 1)) (c4 : I3 91 13 = nI (m + 1)) (c5 : I3 9 m = nI (flatK 0 ks).length) (c6 : ∀ j, j < (flatK 0 ks).length → I3 (5 + m) j = (flatK 0 ks).getD j 0) (c7 : CLM I3 m ks) (e : fr (ruF m) I I3) : Rel I3 := by
  obtain ⟨hT, hK, hW, hA, hI, hP, hR, hg, h25, h26⟩ := h
  obtain ⟨r1, r2, r3⟩ := hRK
  obtain ⟨q1, q2, q3⟩ := hRM
  refine ⟨⟨0, by decide, c1, c2, fun k hk => absurd hk (Nat.not_lt_zero k)⟩, ⟨m + 1, fun r => if r = m then ks else K r, ⟨c3, by omega, fun r hr => ?_⟩, ⟨c4, by omega, fun r hr => ?_⟩⟩, relW_k hW (fun c k q => e c k (by unfold inW at q; unfold ruF; omega)), relA_k hA (fun c k q => e c k (by unfold inA at q; unfold ruF; omega)), relI_k hI (fun c k q => e c k (by unfold inI at q; unfold ruF; omega)), relP_k hP (fun c k q => e c k (by unfold inP at q; unfold ruF; omega)), relR_k hR (fun c k q => e c k (by unfold inR at q; unfold ruF; omega)), by rw [e 0 17 (by unfold ruF; omega), e 91 24 (by unfold ruF; omega)]; exact hg, by rw [e 91 25 (by unfold ruF; omega)]; exact h25, by rw [e 91 26 (by unfold ruF; omega)]; exact h26⟩
  · show (∀ q ∈ (if r = m then ks else K r), clOk q) ∧ (flatK 0 (if r = m then ks else K r)).length ≤ 240 ∧ I3 9 r = nI (flatK 0 (if r = m then ks else K r)).length ∧ ∀ j, j < (flatK 0 (if r = m then ks else K r)).length → I3 (5 + r) j = (flatK 0 (if r = m then ks else K r)).getD j 0
    by_cases z : r = m
    · rw [if_pos z, z]; exact ⟨hks.2, hks.1, c5, c6⟩
    · rw [if_neg z]
      obtain ⟨g1, g2, g3, g4⟩ := r3 r (by omega)
      exact ⟨g1, g2, by rw [e 9 r (by unfold ruF; omega)]; exact g3, fun j hj => by rw [e (5 + r) j (by unfold ruF; omega)]; exact g4 j hj⟩
  · show CLM I3 r (if r = m then ks else K r)
    by_cases z : r = m
    · rw [if_pos z, z]; exact c7
    · rw [if_neg z]
      exact CLM_r (m := m) (by omega) (q3 r (by omega)) (fun k hk => ⟨e 93 k (by unfold ruF; omega), e 94 k (by unfold ruF; omega)⟩) (fun k hk => e 96 k (by unfold ruF; omega)) (fun k hk => ⟨e 97 k (by unfold ruF; omega), e 98 k (by unfold ruF; omega), e 99 k (by unfold ruF; omega)⟩)
theorem Rel_er {I I3 : Nat → Nat → Int32} {m : Nat} (h : Rel I) (hm : I 91 13 = nI m) (hm4 : m < 4) (e : fr (fun c k => ruF m c k ∧ ¬ (c = 1 ∧ k = 1) ∧ ¬ (c = 3 ∧ k = 3) ∧ ¬ c = 9 ∧ ¬ c = 5 + m ∧ ¬ (c = 91 ∧ (k = 2 ∨ k = 13))) I I3) : Rel I3 := by
  obtain ⟨hT, hK, hW, hA, hI, hP, hR, hg, h25, h26⟩ := h
  obtain ⟨m', K, ⟨r1, r2, r3⟩, ⟨q1, q2, q3⟩⟩ := hK
  have em : m' = m := by
    have := q1.symm.trans hm
    rwa [jn_eq (by omega) (by omega)] at this
  subst em
  refine ⟨relT_k hT (fun c k q => e c k (by unfold inT at q; unfold ruF; omega)), ⟨m', K, ⟨by rw [e 3 3 (by unfold ruF; omega)]; exact r1, r2, fun r hr => ?_⟩, ⟨by rw [e 91 13 (by unfold ruF; omega)]; exact q1, q2, fun r hr => CLM_r (m := m') hr (q3 r hr) (fun k hk => ⟨e 93 k (by unfold ruF; omega), e 94 k (by unfold ruF; omega)⟩) (fun k hk => e 96 k (by unfold ruF; omega)) (fun k hk => ⟨e 97 k (by unfold ruF; omega), e 98 k (by unfold ruF; omega), e 99 k (by unfold ruF; omega)⟩)⟩⟩, relW_k hW (fun c k q => e c k (by unfold inW at q; unfold ruF; omega)), relA_k hA (fun c k q => e c k (by unfold inA at q; unfold ruF; omega)), relI_k hI (fun c k q => e c k (by unfold inI at q; unfold ruF; omega)), relP_k hP (fun c k q => e c k (by unfold inP at q; unfold ruF; omega)), relR_k hR (fun c k q => e c k (by unfold inR at q; unfold ruF; omega)), by rw [e 0 17 (by unfold ruF; omega), e 91 24 (by unfold ruF; omega)]; exact hg, by rw [e 91 25 (by unfold ruF; omega)]; exact h25, by rw [e 91 26 (by unfold ruF; omega)]; exact h26⟩
  obtain ⟨g1, g2, g3, g4⟩ := r3 r hr
  exact ⟨g1, g2, by rw [e 9 r (by unfold ruF; omega)]; exact g3, fun j hj => by rw [e (5 + r) j (by unfold ruF; omega)]; exact g4 j hj⟩
set_option maxHeartbeats 8000000 in
theorem two_text {Ω : mj_Om} {l : Launch} {I : Nat → Nat → Int32} {J : Nat → Nat → Int64} (s : Int32) (h : Rel I) : Two Ω l mX11_text mX12_text [.int s] I J := by
  obtain ⟨t, hC, hM⟩ := Rel_T h
  have ht := hC.1.1
  have hK := h.2.1
  refine inX11_text (Nat.le_of_ble_eq_true rfl) s I J ?_
  by_cases q : s = 0
  · rw [if_pos q]
    refine ⟨⟨by trivial, mj_isk_mk _ _⟩, t, I 2, hC, fun A hA => ⟨_, A, J, rfl, rfl, ?_⟩⟩
    obtain ⟨a1, a2⟩ := hA
    refine inX12_text (Nat.le_of_ble_eq_true rfl) s A J ?_
    rw [if_pos q]
    cases hr : wtP t (I 2) with
    | error e =>
      have e3 : e ≤ 300 := by have := wt_ok.1 e hr; omega
      have aS := w_Scr (a1 e hr)
      refine ⟨⟨by trivial, mj_isk_mk _ _⟩, t, I 2, TM_S hM aS, fun B hB => ?_⟩
      rw [hr, if_neg (show ¬ faR (Except.error e : Except Nat WS) = -1 from nI_n1 e3), if_neg (show ¬ s = 1 by rw [q]; decide)]
      exact ⟨B, J, rfl, rfl, Rel_q h (fr_tr aS (rw_Scr hB.1))⟩
    | ok w =>
      have aW := a2 w hr
      obtain ⟨wf, wr⟩ := wt_ok.2 w hr
      have aF := aW.2.2.2.2.2.2.2.2.2.2.2.2.2
      have TA : TM A t (I 2) := TM_fr hM (aF 91 2 (by unfold tkF wFr fgF; omega)) (fun k => aF 92 k (by unfold tkF wFr fgF; omega))
      refine ⟨⟨by trivial, mj_isk_mk _ _⟩, t, I 2, TA, fun B hB => ?_⟩
      have bW := hB.2 w hr
      rw [hr, if_pos (show faR (Except.ok w : Except Nat WS) = -1 from rfl)]
      refine ⟨⟨by trivial, mj_isk_mk _ _⟩, w.2.2.1, ⟨by rw [ui_k (by decide)]; exact bW.2.1, wr.2.1⟩, fun C hC' => ⟨C, J, rfl, rfl, Rel_water h wf wr aW hB.1 bW hC'⟩⟩
  rw [if_neg q]
  by_cases q1 : s = 1
  case neg =>
    rw [if_neg q1]
    refine ⟨_, I, J, rfl, rfl, ?_⟩
    refine inX12_text (Nat.le_of_ble_eq_true rfl) s I J ?_
    rw [if_neg q, if_neg q1]
    exact ⟨I, J, rfl, rfl, h⟩
  rw [if_pos q1]
  obtain ⟨m, K, hRK, hRM⟩ := hK
  refine ⟨⟨by trivial, mj_isk_mk _ _⟩, t, I 2, m, ⟨hC, hRK.1, hRK.2.1⟩, fun A hA => ⟨_, A, J, rfl, rfl, ?_⟩⟩
  obtain ⟨a1, a2⟩ := hA
  refine inX12_text (Nat.le_of_ble_eq_true rfl) s A J ?_
  rw [if_neg q, if_pos q1]
  by_cases hm : m < 4
  case neg =>
    have aF := a1 0 (fun w => absurd w hm)
    have aS := c_Scr aF
    rw [aS 91 13 (by unfold Scr; omega), hRM.1, if_neg (show ¬ nI m < 4 from nnl (b := 4) (by omega) (by have := hRM.2.1; omega))]
    refine ⟨A, J, ?_, rfl, Rel_q h aS⟩
    unfold trR
    rw [if_neg hm]
  cases hr : ruP t (I 2) with
  | error e =>
    have e3 : e ≤ 300 := by have := ru_er ht hr; omega
    have aF := a1 e (fun _ => hr)
    have aS := c_Scr aF
    rw [aS 91 13 (by unfold Scr; omega), hRM.1, if_pos (show nI m < 4 from nlt (b := 4) hm (by omega))]
    refine ⟨⟨by trivial, mj_isk_mk _ _⟩, m, rfl, t, I 2, ⟨TM_S hM aS, by omega⟩, fun B hB => ?_⟩
    rw [hr, if_neg (show ¬ faR (Except.error e : Except Nat (List (List Int32 × List Int32))) = -1 from nI_n1 e3)]
    refine ⟨B, J, ?_, rfl, Rel_er h hRM.1 hm (fun c k w => ?_)⟩
    · unfold trR
      rw [if_pos hm]
    · dsimp only at w
      unfold ruF at w
      rw [hB.1 c k (by unfold wF; omega)]; exact aF c k (by unfold cFr; omega)
  | ok ks =>
    obtain ⟨g1, g2, g3, g4, g5⟩ := a2 ks hm hr
    have r13 : A 91 13 = nI m := by rw [g5 91 13 (by unfold cFr; omega)]; exact hRM.1
    have TA : TM A t (I 2) := TM_fr hM (g5 91 2 (by unfold cFr; omega)) (fun k => g5 92 k (by unfold cFr; omega))
    rw [r13, if_pos (show nI m < 4 from nlt (b := 4) hm (by omega))]
    refine ⟨⟨by trivial, mj_isk_mk _ _⟩, m, rfl, t, I 2, ⟨TA, by omega⟩, fun B hB => ?_⟩
    obtain ⟨b1, b2⟩ := hB
    rw [hr, if_pos (show faR (Except.ok ks : Except Nat (List (List Int32 × List Int32))) = -1 from rfl)]
    have b13 : B 91 13 = nI m := by rw [b1 91 13 (by unfold wF; omega)]; exact r13
    rw [b13, jn_succ]
    have hz : fr (fun c k => c = 91 ∧ (k = 2 ∨ k = 13)) B (mj_ui (mj_ui B 91 2 0) 91 13 (nI (m + 1))) := fr_ui (fr_ui fr_rf ⟨rfl, Or.inl rfl⟩) ⟨rfl, Or.inr rfl⟩
    have gB : ∀ c k, c < 91 → (mj_ui (mj_ui B 91 2 0) 91 13 (nI (m + 1))) c k = A c k := fun c k hc => by rw [hz c k (by (try dsimp only); omega)]; exact b1 c k (by unfold wF; omega)
    have l0 := ru_ok hr
    refine ⟨_, J, ?_, rfl, Rel_rule h hm hRK hRM ⟨by omega, l0.2⟩ (by rw [gB 1 1 (by decide)]; exact g1) (by rw [ui_k (by decide), ui_s]) (by rw [gB 3 3 (by decide)]; exact g2) ui_s (by rw [gB 9 m (by decide)]; exact g3) (fun j hj => by rw [gB (5 + m) j (by omega)]; exact g4 j hj) (CLM_fr (b2 ks hr) (fun c k h1 h2 => hz c k (by (try dsimp only); omega))) (fun c k w => ?_)⟩
    · unfold trR
      rw [if_pos hm]
      congr 2
      rw [← jn_succ]
      exact Int32.add_sub_cancel _ _
    · unfold ruF at w
      rw [hz c k (by (try dsimp only); omega), b1 c k (by unfold wF; omega)]
      exact g5 c k (by unfold cFr; omega)
