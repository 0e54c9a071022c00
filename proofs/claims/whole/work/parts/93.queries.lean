/-! ===== queries on both sides (by program, wip/whole/p93.py) ===== -/
theorem Rel_c3 {I : Nat → Nat → Int32} {m : Nat} {K : KT} (h : Rel I) (k1 : RK I m K) (k2 : RKM I m K) : qC I m (rfK m K) ∧ qM I m (rfK m K) := by
  obtain ⟨hT, hK, hW, hA, hI, hP, hR, hg, h25, h26⟩ := h
  obtain ⟨w1, w2, w3, w4, w5⟩ := hW
  refine ⟨⟨w1, ⟨K, k1, rfl⟩, fun hn => (w5 hn).2.2.1⟩, ⟨w2, ⟨K, k2, rfl⟩, fun hn => ?_, h25, h26⟩⟩
  rw [w3] at hn ⊢
  obtain ⟨x1, x2, x3, -⟩ := w5 hn
  rw [x1, x2, w4]
  exact x3
theorem Rel_c4 {I A : Nat → Nat → Int32} {m : Nat} {K : KT} (h : Rel I) (k1 : RK I m K) (k2 : RKM I m K) (e : fr Scr I A) : Rel A ∧ qM A m (rfK m K) ∧ nF A 39 = nF I 39 ∧ VF A 39 = VF I 39 ∧ lv7 (A 27) = lv7 (I 27) ∧ A 39 9 = I 39 9 := by
  have hA := Rel_q h e
  obtain ⟨q1, q2, q3, q4, q5⟩ := qC_q (Rel_c3 h k1 k2).1 e
  obtain ⟨a1, a2, a3⟩ := k1
  obtain ⟨b1, b2, b3⟩ := k2
  have k1' : RK A m K := ⟨by rw [e 3 3 (by unfold Scr; omega)]; exact a1, a2, fun r hr => by
    obtain ⟨g1, g2, g3, g4⟩ := a3 r hr
    exact ⟨g1, g2, by rw [e 9 r (by unfold Scr; omega)]; exact g3, fun j hj => by rw [e (5 + r) j (by unfold Scr; omega)]; exact g4 j hj⟩⟩
  have k2' : RKM A m K := ⟨by rw [e 91 13 (by unfold Scr; omega)]; exact b1, b2, fun r hr => CLM_fr2 (by omega) (b3 r hr) e⟩
  exact ⟨hA, (Rel_c3 hA k1' k2').2, q2, q3, q4, q5⟩
set_option maxHeartbeats 1000000 in
theorem two_ahead {Ω : mj_Om} {l : Launch} {I : Nat → Nat → Int32} {J : Nat → Nat → Int64} (b : Int32) (w : Int32) (h : Rel I) : Two Ω l mX11_ahead mX12_ahead [.int b, .int w] I J := by
  obtain ⟨m, K, k1, k2⟩ := id h.2.1
  have hq := Rel_c3 h k1 k2
  refine mnX11_ahead (Nat.le_of_ble_eq_true rfl) b w m (rfK m K) I J (hq.1) (fun A hA => ⟨_, A, J, rfl, rfl, ?_⟩)
  obtain ⟨rA, hqM, n1, v1, l1, s1⟩ := Rel_c4 h k1 k2 hA
  refine mnX12_ahead (Nat.le_of_ble_eq_true rfl) b w m (rfK m K) A J (hqM) (fun B hB => ⟨B, J, ?_, rfl, Rel_q rA hB⟩)
  rw [ahead_al rA, n1, v1, l1, s1]
set_option maxHeartbeats 1000000 in
theorem two_where {Ω : mj_Om} {l : Launch} {I : Nat → Nat → Int32} {J : Nat → Nat → Int64} (b : Int32) (w : Int32) (h : Rel I) : Two Ω l mX11_where mX12_where [.int b, .int w] I J := by
  obtain ⟨m, K, k1, k2⟩ := id h.2.1
  have hq := Rel_c3 h k1 k2
  refine mnX11_where (Nat.le_of_ble_eq_true rfl) b w m (rfK m K) I J (hq.1) (fun A hA => ⟨_, A, J, rfl, rfl, ?_⟩)
  obtain ⟨rA, hqM, n1, v1, l1, s1⟩ := Rel_c4 h k1 k2 hA
  refine mnX12_where (Nat.le_of_ble_eq_true rfl) b w m (rfK m K) A J (hqM) (fun B hB => ⟨B, J, ?_, rfl, Rel_q rA hB⟩)
  rw [where_al rA, n1, v1, l1, s1]
set_option maxHeartbeats 1000000 in
theorem two_near {Ω : mj_Om} {l : Launch} {I : Nat → Nat → Int32} {J : Nat → Nat → Int64} (b : Int32) (w : Int32) (h : Rel I) : Two Ω l mX11_near mX12_near [.int b, .int w] I J := by
  obtain ⟨m, K, k1, k2⟩ := id h.2.1
  have hq := Rel_c3 h k1 k2
  refine mnX11_near (Nat.le_of_ble_eq_true rfl) b w m (rfK m K) I J (hq.1) (fun A hA => ⟨_, A, J, rfl, rfl, ?_⟩)
  obtain ⟨rA, hqM, n1, v1, l1, s1⟩ := Rel_c4 h k1 k2 hA
  refine mnX12_near (Nat.le_of_ble_eq_true rfl) b w m (rfK m K) A J (hqM) (fun B hB => ⟨B, J, ?_, rfl, Rel_q rA hB⟩)
  rw [near_al rA, n1, v1, l1, s1]
set_option maxHeartbeats 1000000 in
theorem two_hold {Ω : mj_Om} {l : Launch} {I : Nat → Nat → Int32} {J : Nat → Nat → Int64} (b : Int32) (w : Int32) (h : Rel I) : Two Ω l mX11_hold mX12_hold [.int b, .int w] I J := by
  obtain ⟨m, K, k1, k2⟩ := id h.2.1
  have hq := Rel_c3 h k1 k2
  refine mnX11_hold (Nat.le_of_ble_eq_true rfl) b w m (rfK m K) I J (hq.1) (fun A hA => ⟨_, A, J, rfl, rfl, ?_⟩)
  obtain ⟨rA, hqM, n1, v1, l1, s1⟩ := Rel_c4 h k1 k2 hA
  refine mnX12_hold (Nat.le_of_ble_eq_true rfl) b w m (rfK m K) A J (hqM) (fun B hB => ⟨B, J, ?_, rfl, Rel_q rA hB⟩)
  rw [hold_al rA, n1, v1, l1, s1]
set_option maxHeartbeats 1000000 in
theorem two_row {Ω : mj_Om} {l : Launch} {I : Nat → Nat → Int32} {J : Nat → Nat → Int64} (b : Int32) (y : Int32) (h : Rel I) : Two Ω l mX11_row mX12_row [.int b, .int y] I J := by
  obtain ⟨m, K, k1, k2⟩ := id h.2.1
  have hq := Rel_c3 h k1 k2
  refine mnX11_row (Nat.le_of_ble_eq_true rfl) b y m (rfK m K) I J (hq.1) (fun A hA => ⟨_, A, J, rfl, rfl, ?_⟩)
  obtain ⟨rA, hqM, n1, v1, l1, s1⟩ := Rel_c4 h k1 k2 hA
  refine mnX12_row (Nat.le_of_ble_eq_true rfl) b y m (rfK m K) A J (hqM) (fun B hB => ⟨B, J, ?_, rfl, Rel_q rA hB⟩)
  rw [row_al rA, n1, v1, l1, s1]
set_option maxHeartbeats 1000000 in
theorem two_tides {Ω : mj_Om} {l : Launch} {I : Nat → Nat → Int32} {J : Nat → Nat → Int64} (h : Rel I) : Two Ω l mX11_tides mX12_tides [] I J := by
  obtain ⟨m, K, k1, k2⟩ := id h.2.1
  have hq := Rel_c3 h k1 k2
  refine mnX11_tidesS (Nat.le_of_ble_eq_true rfl) m (rfK m K) I J (hq.1) (fun A hA => ⟨_, A, J, rfl, rfl, ?_⟩)
  obtain ⟨rA, hqM, n1, v1, l1, s1⟩ := Rel_c4 h k1 k2 hA
  refine mnX12_tides (Nat.le_of_ble_eq_true rfl) m (rfK m K) A J (hqM) (fun B hB => ⟨B, J, ?_, rfl, Rel_q rA hB⟩)
  rw [tide_al rA, n1, l1, s1]
set_option maxHeartbeats 1000000 in
theorem two_heap {Ω : mj_Om} {l : Launch} {I : Nat → Nat → Int32} {J : Nat → Nat → Int64} (t : Int32) (h : Rel I) : Two Ω l mX11_heap mX12_heap [.int t] I J := by
  obtain ⟨m, K, k1, k2⟩ := id h.2.1
  have hq := Rel_c3 h k1 k2
  refine mnX11_heap (Nat.le_of_ble_eq_true rfl) t m (rfK m K) I J (hq.1) (fun A hA => ⟨_, A, J, rfl, rfl, ?_⟩)
  obtain ⟨rA, hqM, n1, v1, l1, s1⟩ := Rel_c4 h k1 k2 hA
  refine mnX12_heap (Nat.le_of_ble_eq_true rfl) t m (rfK m K) A J (hqM) (fun B hB => ⟨B, J, ?_, rfl, Rel_q rA hB⟩)
  rw [heap_al rA, n1, v1, l1]
set_option maxHeartbeats 1000000 in
theorem two_hole {Ω : mj_Om} {l : Launch} {I : Nat → Nat → Int32} {J : Nat → Nat → Int64} (b : Int32) (h : Rel I) : Two Ω l mX11_hole mX12_hole [.int b] I J := by
  obtain ⟨m, K, k1, k2⟩ := id h.2.1
  have hq := Rel_c3 h k1 k2
  refine mnX11_hole (Nat.le_of_ble_eq_true rfl) b m (rfK m K) I J (hq.1) (fun A hA => ⟨_, A, J, rfl, rfl, ?_⟩)
  obtain ⟨rA, hqM, n1, v1, l1, s1⟩ := Rel_c4 h k1 k2 hA
  refine mnX12_hole (Nat.le_of_ble_eq_true rfl) b m (rfK m K) A J (hqM) (fun B hB => ⟨B, J, ?_, rfl, Rel_q rA hB⟩)
  rw [hole_al rA, n1, v1]
set_option maxHeartbeats 1000000 in
theorem two_keeps {Ω : mj_Om} {l : Launch} {I : Nat → Nat → Int32} {J : Nat → Nat → Int64} (b : Int32) (h : Rel I) : Two Ω l mX11_keeps mX12_keeps [.int b] I J := by
  obtain ⟨m, K, k1, k2⟩ := id h.2.1
  have hq := Rel_c3 h k1 k2
  refine mnX11_keeps (Nat.le_of_ble_eq_true rfl) b m (rfK m K) I J (hq.1) (fun A hA => ⟨_, A, J, rfl, rfl, ?_⟩)
  obtain ⟨rA, hqM, n1, v1, l1, s1⟩ := Rel_c4 h k1 k2 hA
  refine mnX12_keeps (Nat.le_of_ble_eq_true rfl) b m (rfK m K) A J (hqM) (fun B hB => ⟨B, J, ?_, rfl, Rel_q rA hB⟩)
  rw [keeps_al rA, n1, v1, l1, s1]
set_option maxHeartbeats 1000000 in
theorem two_which {Ω : mj_Om} {l : Launch} {I : Nat → Nat → Int32} {J : Nat → Nat → Int64} (w : Int32) (h : Rel I) : Two Ω l mX11_which mX12_which [.int w] I J := by
  obtain ⟨m, K, k1, k2⟩ := id h.2.1
  have hq := Rel_c3 h k1 k2
  refine mnX11_which (Nat.le_of_ble_eq_true rfl) w m (rfK m K) I J (hq.1) (fun A hA => ⟨_, A, J, rfl, rfl, ?_⟩)
  obtain ⟨rA, hqM, n1, v1, l1, s1⟩ := Rel_c4 h k1 k2 hA
  refine mnX12_which (Nat.le_of_ble_eq_true rfl) w m (rfK m K) A J (hqM) (fun B hB => ⟨B, J, ?_, rfl, Rel_q rA hB⟩)
  rw [which_al rA, n1, v1, l1]
set_option maxHeartbeats 1000000 in
theorem two_duel {Ω : mj_Om} {l : Launch} {I : Nat → Nat → Int32} {J : Nat → Nat → Int64} (x : Int32) (y : Int32) (h : Rel I) : Two Ω l mX11_duel mX12_duel [.int x, .int y] I J := by
  obtain ⟨m, K, k1, k2⟩ := id h.2.1
  have hq := Rel_c3 h k1 k2
  refine mnX11_duel (Nat.le_of_ble_eq_true rfl) x y m (rfK m K) I J (hq.1) (fun A hA => ⟨_, A, J, rfl, rfl, ?_⟩)
  obtain ⟨rA, hqM, n1, v1, l1, s1⟩ := Rel_c4 h k1 k2 hA
  refine mnX12_duel (Nat.le_of_ble_eq_true rfl) x y m (rfK m K) A J (hqM) (fun B hB => ⟨B, J, ?_, rfl, Rel_q rA hB⟩)
  rw [duel_al rA, n1, l1]
set_option maxHeartbeats 1000000 in
theorem two_reply {Ω : mj_Om} {l : Launch} {I : Nat → Nat → Int32} {J : Nat → Nat → Int64} (x : Int32) (h : Rel I) : Two Ω l mX11_reply mX12_reply [.int x] I J := by
  obtain ⟨m, K, k1, k2⟩ := id h.2.1
  have hq := Rel_c3 h k1 k2
  refine mnX11_reply (Nat.le_of_ble_eq_true rfl) x m (rfK m K) I J (hq.1) (fun A hA => ⟨_, A, J, rfl, rfl, ?_⟩)
  obtain ⟨rA, hqM, n1, v1, l1, s1⟩ := Rel_c4 h k1 k2 hA
  refine mnX12_reply (Nat.le_of_ble_eq_true rfl) x m (rfK m K) A J (hqM) (fun B hB => ⟨B, J, ?_, rfl, Rel_q rA hB⟩)
  rw [reply_al rA, n1, l1]
set_option maxHeartbeats 1000000 in
theorem two_strong {Ω : mj_Om} {l : Launch} {I : Nat → Nat → Int32} {J : Nat → Nat → Int64} (h : Rel I) : Two Ω l mX11_strong mX12_strong [] I J := by
  obtain ⟨m, K, k1, k2⟩ := id h.2.1
  have hq := Rel_c3 h k1 k2
  refine mnX11_strong (Nat.le_of_ble_eq_true rfl) m (rfK m K) I J (hq.1) (fun A hA => ⟨_, A, J, rfl, rfl, ?_⟩)
  obtain ⟨rA, hqM, n1, v1, l1, s1⟩ := Rel_c4 h k1 k2 hA
  refine mnX12_strong (Nat.le_of_ble_eq_true rfl) m (rfK m K) A J (hqM) (fun B hB => ⟨B, J, ?_, rfl, Rel_q rA hB⟩)
  rw [strong_al rA, n1, l1]
set_option maxHeartbeats 1000000 in
theorem two_flag {Ω : mj_Om} {l : Launch} {I : Nat → Nat → Int32} {J : Nat → Nat → Int64} (b : Int32) (h : Rel I) : Two Ω l mX11_flag mX12_flag [.int b] I J := by
  obtain ⟨m, K, k1, k2⟩ := id h.2.1
  have hq := Rel_c3 h k1 k2
  refine mnX11_flag (Nat.le_of_ble_eq_true rfl) b m (rfK m K) I J (hq.1) (fun A hA => ⟨_, A, J, rfl, rfl, ?_⟩)
  obtain ⟨rA, hqM, n1, v1, l1, s1⟩ := Rel_c4 h k1 k2 hA
  refine mnX12_flag (Nat.le_of_ble_eq_true rfl) b m (rfK m K) A J (hqM) (fun B hB => ⟨B, J, ?_, rfl, Rel_q rA hB⟩)
  rw [flag_al rA, n1, v1, l1, s1]
set_option maxHeartbeats 1000000 in
theorem two_points {Ω : mj_Om} {l : Launch} {I : Nat → Nat → Int32} {J : Nat → Nat → Int64} (b : Int32) (h : Rel I) : Two Ω l mX11_points mX12_points [.int b] I J := by
  obtain ⟨m, K, k1, k2⟩ := id h.2.1
  have hq := Rel_c3 h k1 k2
  obtain ⟨r, r1, r2, r3, r4, r5⟩ := id h.2.2.2.2.2.2.1
  refine mnX11_pointsS (Nat.le_of_ble_eq_true rfl) b m (rfK m K) I J (hq.1) (fun A hA => ⟨_, A, J, rfl, rfl, ?_⟩)
  obtain ⟨rA, hqM, n1, v1, l1, s1⟩ := Rel_c4 h k1 k2 hA
  have a42 : A 91 42 = nI r := by rw [hA 91 42 (by unfold Scr; omega)]; exact r3
  have p90 : (fun b => A 90 b) = (fun b => I 90 b) := funext (fun b => hA 90 b (by unfold Scr; omega))
  refine mnX12_points (Nat.le_of_ble_eq_true rfl) b m (rfK m K) r A J (⟨hqM, r1, a42⟩) (fun B hB => ⟨B, J, ?_, rfl, Rel_q rA hB⟩)
  rw [points_al rA r1 a42, n1, p90]
set_option maxHeartbeats 1000000 in
theorem two_champion {Ω : mj_Om} {l : Launch} {I : Nat → Nat → Int32} {J : Nat → Nat → Int64} (h : Rel I) : Two Ω l mX11_champion mX12_champion [] I J := by
  obtain ⟨m, K, k1, k2⟩ := id h.2.1
  have hq := Rel_c3 h k1 k2
  obtain ⟨r, r1, r2, r3, r4, r5⟩ := id h.2.2.2.2.2.2.1
  refine mnX11_champion (Nat.le_of_ble_eq_true rfl) m (rfK m K) r I J (⟨hq.1, r1, r2⟩) (fun A hA => ⟨_, A, J, rfl, rfl, ?_⟩)
  obtain ⟨rA, hqM, n1, v1, l1, s1⟩ := Rel_c4 h k1 k2 hA
  have a42 : A 91 42 = nI r := by rw [hA 91 42 (by unfold Scr; omega)]; exact r3
  have p90 : (fun b => A 90 b) = (fun b => I 90 b) := funext (fun b => hA 90 b (by unfold Scr; omega))
  have nA := Rel_n rA
  refine mnX12_champion (Nat.le_of_ble_eq_true rfl) m (rfK m K) r A J (⟨hqM, r1, a42, fun w => by rw [nA, n1]; exact r4 w⟩) (fun B hB => ⟨B, J, ?_, rfl, Rel_q rA hB⟩)
  rw [champ_al rA r1 a42, n1, p90]
set_option maxHeartbeats 1000000 in
theorem two_was {Ω : mj_Om} {l : Launch} {I : Nat → Nat → Int32} {J : Nat → Nat → Int64} (w : Int32) (h : Rel I) : Two Ω l mX11_was mX12_was [.int w] I J := by
  obtain ⟨m, K, k1, k2⟩ := id h.2.1
  have hq := Rel_c3 h k1 k2
  obtain ⟨p, r1, r2, r3, r5⟩ := id h.2.2.2.2.2.1
  refine mnX11_was (Nat.le_of_ble_eq_true rfl) w m (rfK m K) I J (⟨hq.1, was_pre h⟩) (fun A hA => ⟨_, A, J, rfl, rfl, ?_⟩)
  obtain ⟨rA, hqM, n1, v1, l1, s1⟩ := Rel_c4 h k1 k2 hA
  have a40 : A 91 40 = nI p := by rw [hA 91 40 (by unfold Scr; omega)]; exact r3
  have p7 : (fun k => wasP (A 87 k) (A 88 k) (A 89 k) w) = (fun k => wasP (I 87 k) (I 88 k) (I 89 k) w) := funext (fun b => by rw [hA 87 b (by unfold Scr; omega), hA 88 b (by unfold Scr; omega), hA 89 b (by unfold Scr; omega)])
  refine mnX12_was (Nat.le_of_ble_eq_true rfl) w m (rfK m K) p A J (⟨hqM, r1, a40⟩) (fun B hB => ⟨B, J, ?_, rfl, Rel_q rA hB⟩)
  rw [was_al rA r1 a40, n1, p7]
