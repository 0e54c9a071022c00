/-! ===== gust, end, count, line, race, picture, image, back on both sides (by program, wip/whole/p94.py) ===== -/
def cutX11_gustT : List (Nat × List Bool) := []
set_option maxRecDepth 100000 in
set_option maxHeartbeats 4000000 in
theorem inX11_gustT {Ω : mj_Om} {l : Launch} {d : Nat} {Φ : Option Value → mj_M → Prop} (hd : 1 ≤ d) (v : Int32) (I : Nat → Nat → Int32) (J : Nat → Nat → Int64)
    (h : ((if v < (0 : Int32) then (Φ (some (.int (0 : Int32))) (mk I J)) else (if (99 : Int32) < v then (Φ (some (.int (0 : Int32))) (mk I J)) else (if v = (I 0 17) then (Φ (some (.int (0 : Int32))) (mk I J)) else (Φ (some (.int (1 : Int32))) (mk (mj_ui I 0 17 v) J))))))) :
    mj_Met Ω l false mX11_gust d 0 0 [.ref 0, .int v] (mk I J) Φ := mj_entry (by decide) rfl (fun h => (by cases h)) (Nat.le_of_ble_eq_true rfl) (mj_blk (μ := mX11_gust) (P := pX11_gust) (cut := cutX11_gustT) (cs := csX11_gust) dX11_gust csX11_gust_ok hd 17 0 _ h)
def cutX12_gustT : List (Nat × List Bool) := []
set_option maxRecDepth 100000 in
set_option maxHeartbeats 4000000 in
theorem inX12_gustT {Ω : mj_Om} {l : Launch} {d : Nat} {Φ : Option Value → mj_M → Prop} (hd : 2 ≤ d) (v : Int32) (I : Nat → Nat → Int32) (J : Nat → Nat → Int64)
    (h : ((if v < (0 : Int32) then (Φ (some (.int (0 : Int32))) (mk I J)) else (if (99 : Int32) < v then (Φ (some (.int (0 : Int32))) (mk I J)) else (if v = (I 91 24) then (Φ (some (.int (0 : Int32))) (mk I J)) else (Φ (some (.int (1 : Int32))) (mk (mj_ui I 91 24 v) J))))))) :
    mj_Met Ω l false mX12_gust d 0 0 [.ref 91, .int v] (mk I J) Φ := mj_entry (by decide) rfl (fun h => (by cases h)) (Nat.le_of_ble_eq_true rfl) (mj_blk (μ := mX12_gust) (P := pX12_gust) (cut := cutX12_gustT) (cs := csX12_gust) dX12_gust csX12_gust_ok hd 17 0 _ h)
def cutX11_endT : List (Nat × List Bool) := []
set_option maxRecDepth 100000 in
set_option maxHeartbeats 4000000 in
theorem inX11_endT {Ω : mj_Om} {l : Launch} {d : Nat} {Φ : Option Value → mj_M → Prop} (hd : 1 ≤ d) (v : Int32) (I : Nat → Nat → Int32) (J : Nat → Nat → Int64)
    (h : ((if v < (0 : Int32) then (Φ (some (.int (0 : Int32))) (mk I J)) else (if (I 1 1) < v then (Φ (some (.int (0 : Int32))) (mk I J)) else (Φ (some (.int (1 : Int32))) (mk (mj_ui I 1 1 v) J)))))) :
    mj_Met Ω l false mX11_end d 0 0 [.ref 0, .int v] (mk I J) Φ := mj_entry (by decide) rfl (fun h => (by cases h)) (Nat.le_of_ble_eq_true rfl) (mj_blk (μ := mX11_end) (P := pX11_end) (cut := cutX11_endT) (cs := csX11_end) dX11_end csX11_end_ok hd 16 0 _ h)
def cutX12_endT : List (Nat × List Bool) := []
set_option maxRecDepth 100000 in
set_option maxHeartbeats 4000000 in
theorem inX12_endT {Ω : mj_Om} {l : Launch} {d : Nat} {Φ : Option Value → mj_M → Prop} (hd : 1 ≤ d) (v : Int32) (I : Nat → Nat → Int32) (J : Nat → Nat → Int64)
    (h : ((if v < (0 : Int32) then (Φ (some (.int (0 : Int32))) (mk I J)) else (if (I 91 2) < v then (Φ (some (.int (0 : Int32))) (mk I J)) else (Φ (some (.int (1 : Int32))) (mk (mj_ui I 91 2 v) J)))))) :
    mj_Met Ω l false mX12_end d 0 0 [.ref 91, .int v] (mk I J) Φ := mj_entry (by decide) rfl (fun h => (by cases h)) (Nat.le_of_ble_eq_true rfl) (mj_blk (μ := mX12_end) (P := pX12_end) (cut := cutX12_endT) (cs := csX12_end) dX12_end csX12_end_ok hd 14 0 _ h)
def cutX11_countT : List (Nat × List Bool) := []
set_option maxRecDepth 100000 in
set_option maxHeartbeats 4000000 in
theorem inX11_countT {Ω : mj_Om} {l : Launch} {d : Nat} {Φ : Option Value → mj_M → Prop} (hd : 1 ≤ d) (v : Int32) (I : Nat → Nat → Int32) (J : Nat → Nat → Int64)
    (h : ((if v = (0 : Int32) then (Φ (some (.int (I 39 8))) (mk I J)) else (if v = (1 : Int32) then (Φ (some (.int (I 3 3))) (mk I J)) else (if v = (2 : Int32) then (Φ (some (.int (I 1 1))) (mk I J)) else (if v = (3 : Int32) then (Φ (some (.int (I 39 9))) (mk I J)) else (if v = (4 : Int32) then (Φ (some (.int (I 0 17))) (mk I J)) else (if v = (5 : Int32) then (Φ (some (.int (I 86 4))) (mk I J)) else (if v = (6 : Int32) then (Φ (some (.int (I 86 5))) (mk I J)) else (if v = (7 : Int32) then (Φ (some (.int (I 80 2))) (mk I J)) else (Φ (some (.int (-1000000 : Int32))) (mk I J)))))))))))) :
    mj_Met Ω l false mX11_count d 0 0 [.ref 0, .int v] (mk I J) Φ := mj_entry (by decide) rfl (fun h => (by cases h)) (Nat.le_of_ble_eq_true rfl) (mj_blk (μ := mX11_count) (P := pX11_count) (cut := cutX11_countT) (cs := csX11_count) dX11_count csX11_count_ok hd 36 0 _ h)
def cutX12_countT : List (Nat × List Bool) := []
set_option maxRecDepth 100000 in
set_option maxHeartbeats 4000000 in
theorem inX12_countT {Ω : mj_Om} {l : Launch} {d : Nat} {Φ : Option Value → mj_M → Prop} (hd : 1 ≤ d) (v : Int32) (I : Nat → Nat → Int32) (J : Nat → Nat → Int64)
    (h : ((if v = (0 : Int32) then (Φ (some (.int (I 91 22))) (mk I J)) else (if v = (1 : Int32) then (Φ (some (.int (I 91 13))) (mk I J)) else (if v = (2 : Int32) then (Φ (some (.int (I 91 2))) (mk I J)) else (if v = (3 : Int32) then (Φ (some (.int (I 106 48))) (mk I J)) else (if v = (4 : Int32) then (Φ (some (.int (I 91 24))) (mk I J)) else (if v = (5 : Int32) then (Φ (some (.int (I 91 40))) (mk I J)) else (if v = (6 : Int32) then (Φ (some (.int (I 91 42))) (mk I J)) else (if v = (7 : Int32) then (Φ (some (.int (I 91 31))) (mk I J)) else (Φ (some (.int (-1000000 : Int32))) (mk I J)))))))))))) :
    mj_Met Ω l false mX12_count d 0 0 [.ref 91, .int v] (mk I J) Φ := mj_entry (by decide) rfl (fun h => (by cases h)) (Nat.le_of_ble_eq_true rfl) (mj_blk (μ := mX12_count) (P := pX12_count) (cut := cutX12_countT) (cs := csX12_count) dX12_count csX12_count_ok hd 31 0 _ h)
def cutX11_lineT : List (Nat × List Bool) := []
set_option maxRecDepth 100000 in
set_option maxHeartbeats 4000000 in
theorem inX11_lineT {Ω : mj_Om} {l : Launch} {d : Nat} {Φ : Option Value → mj_M → Prop} (hd : 2 ≤ d) (v : Int32) (I : Nat → Nat → Int32) (J : Nat → Nat → Int64)
    (h : ((if (0 : Int32) < (I 39 8) then (if v < (0 : Int32) then (Φ (some (.int (-1 : Int32))) (mk I J)) else (if v < (7 : Int32) then (mj_gd (mj_inB v 7) (Φ (some (.int (I 27 (v).toNatClampNeg))) (mk I J))) else (Φ (some (.int (-1 : Int32))) (mk I J)))) else (Φ (some (.int (-1 : Int32))) (mk I J))))) :
    mj_Met Ω l false mX11_line d 0 0 [.ref 0, .int v] (mk I J) Φ := mj_entry (by decide) rfl (fun h => (by cases h)) (Nat.le_of_ble_eq_true rfl) (mj_blk (μ := mX11_line) (P := pX11_line) (cut := cutX11_lineT) (cs := csX11_line) dX11_line csX11_line_ok hd 17 0 _ h)
def cutX12_lineT : List (Nat × List Bool) := []
set_option maxRecDepth 100000 in
set_option maxHeartbeats 4000000 in
theorem inX12_lineT {Ω : mj_Om} {l : Launch} {d : Nat} {Φ : Option Value → mj_M → Prop} (hd : 2 ≤ d) (v : Int32) (I : Nat → Nat → Int32) (J : Nat → Nat → Int64)
    (h : ((if (0 : Int32) < (I 91 22) then (if v < (0 : Int32) then (Φ (some (.int (-1 : Int32))) (mk I J)) else (if (6 : Int32) < v then (Φ (some (.int (-1 : Int32))) (mk I J)) else (mj_gd (mj_inB v 7) (Φ (some (.int (I 104 (v).toNatClampNeg))) (mk I J))))) else (Φ (some (.int (-1 : Int32))) (mk I J))))) :
    mj_Met Ω l false mX12_line d 0 0 [.ref 91, .int v] (mk I J) Φ := mj_entry (by decide) rfl (fun h => (by cases h)) (Nat.le_of_ble_eq_true rfl) (mj_blk (μ := mX12_line) (P := pX12_line) (cut := cutX12_lineT) (cs := csX12_line) dX12_line csX12_line_ok hd 16 0 _ h)
theorem two_gust {Ω : mj_Om} {l : Launch} {I : Nat → Nat → Int32} {J : Nat → Nat → Int64} (v : Int32) (h : Rel I) : Two Ω l mX11_gust mX12_gust [.int v] I J := by
  have hg : I 0 17 = I 91 24 := h.2.2.2.2.2.2.2.1
  refine inX11_gustT (Nat.le_of_ble_eq_true rfl) v I J ?_
  have no : (v < 0 ∨ 99 < v ∨ v = I 0 17) → TwoE Ω l mX12_gust [.int v] (some (.int 0)) (mk I J) := fun q => by
    refine ⟨_, I, J, rfl, rfl, inX12_gustT (Nat.le_of_ble_eq_true rfl) v I J ?_⟩
    by_cases q1 : v < 0
    · rw [if_pos q1]; exact ⟨I, J, rfl, rfl, h⟩
    rw [if_neg q1]
    by_cases q2 : 99 < v
    · rw [if_pos q2]; exact ⟨I, J, rfl, rfl, h⟩
    rw [if_neg q2, if_pos (by rw [← hg]; exact (q.resolve_left q1).resolve_left q2)]
    exact ⟨I, J, rfl, rfl, h⟩
  by_cases q1 : v < 0
  · rw [if_pos q1]; exact no (Or.inl q1)
  rw [if_neg q1]
  by_cases q2 : 99 < v
  · rw [if_pos q2]; exact no (Or.inr (Or.inl q2))
  rw [if_neg q2]
  by_cases q3 : v = I 0 17
  · rw [if_pos q3]; exact no (Or.inr (Or.inr q3))
  rw [if_neg q3]
  refine ⟨_, _, J, rfl, rfl, inX12_gustT (Nat.le_of_ble_eq_true rfl) v _ J ?_⟩
  rw [if_neg q1, if_neg q2, ui_c (by decide), if_neg (by rw [← hg]; exact q3)]
  exact ⟨_, J, rfl, rfl, Rel_gust h⟩
theorem two_end {Ω : mj_Om} {l : Launch} {I : Nat → Nat → Int32} {J : Nat → Nat → Int64} (v : Int32) (h : Rel I) : Two Ω l mX11_end mX12_end [.int v] I J := by
  obtain ⟨t, t1, t2, t3, t4⟩ := id h.1
  have hg : I 1 1 = I 91 2 := t2.trans t3.symm
  refine inX11_endT (Nat.le_of_ble_eq_true rfl) v I J ?_
  by_cases q1 : v < 0
  · rw [if_pos q1]
    refine ⟨_, I, J, rfl, rfl, inX12_endT (Nat.le_of_ble_eq_true rfl) v I J ?_⟩
    rw [if_pos q1]; exact ⟨I, J, rfl, rfl, h⟩
  rw [if_neg q1]
  by_cases q2 : I 1 1 < v
  · rw [if_pos q2]
    refine ⟨_, I, J, rfl, rfl, inX12_endT (Nat.le_of_ble_eq_true rfl) v I J ?_⟩
    rw [if_neg q1, if_pos (by rw [← hg]; exact q2)]; exact ⟨I, J, rfl, rfl, h⟩
  rw [if_neg q2]
  refine ⟨_, _, J, rfl, rfl, inX12_endT (Nat.le_of_ble_eq_true rfl) v _ J ?_⟩
  rw [if_neg q1, ui_c (by decide), if_neg (by rw [← hg]; exact q2)]
  exact ⟨_, J, rfl, rfl, Rel_end h q1 q2⟩
theorem two_count {Ω : mj_Om} {l : Launch} {I : Nat → Nat → Int32} {J : Nat → Nat → Int64} (v : Int32) (h : Rel I) : Two Ω l mX11_count mX12_count [.int v] I J := by
  obtain ⟨hT, hK, hW, hA, hI, hP, hR, hg, h25, h26⟩ := id h
  obtain ⟨t, t1, t2, t3, t4⟩ := hT
  obtain ⟨m, K, k1, k2⟩ := hK
  obtain ⟨w1, w2, w3, w4, w5⟩ := hW
  obtain ⟨a, nx, a1, a2, a3, a4, -⟩ := hA
  obtain ⟨p, p1, p2, p3, -⟩ := hP
  obtain ⟨r, r1, r2, r3, -⟩ := hR
  refine inX11_countT (Nat.le_of_ble_eq_true rfl) v I J ?_
  have go : ∀ x : Int32, (if v = 0 then I 91 22 else if v = 1 then I 91 13 else if v = 2 then I 91 2 else if v = 3 then I 106 48 else if v = 4 then I 91 24 else if v = 5 then I 91 40 else if v = 6 then I 91 42 else if v = 7 then I 91 31 else (-1000000)) = x → TwoE Ω l mX12_count [.int v] (some (.int x)) (mk I J) := fun x hx => by
    refine ⟨_, I, J, rfl, rfl, inX12_countT (Nat.le_of_ble_eq_true rfl) v I J ?_⟩
    rw [← hx]
    by_cases q0 : v = 0
    · rw [if_pos q0, if_pos q0]; exact ⟨I, J, rfl, rfl, h⟩
    rw [if_neg q0, if_neg q0]
    by_cases q1 : v = 1
    · rw [if_pos q1, if_pos q1]; exact ⟨I, J, rfl, rfl, h⟩
    rw [if_neg q1, if_neg q1]
    by_cases q2 : v = 2
    · rw [if_pos q2, if_pos q2]; exact ⟨I, J, rfl, rfl, h⟩
    rw [if_neg q2, if_neg q2]
    by_cases q3 : v = 3
    · rw [if_pos q3, if_pos q3]; exact ⟨I, J, rfl, rfl, h⟩
    rw [if_neg q3, if_neg q3]
    by_cases q4 : v = 4
    · rw [if_pos q4, if_pos q4]; exact ⟨I, J, rfl, rfl, h⟩
    rw [if_neg q4, if_neg q4]
    by_cases q5 : v = 5
    · rw [if_pos q5, if_pos q5]; exact ⟨I, J, rfl, rfl, h⟩
    rw [if_neg q5, if_neg q5]
    by_cases q6 : v = 6
    · rw [if_pos q6, if_pos q6]; exact ⟨I, J, rfl, rfl, h⟩
    rw [if_neg q6, if_neg q6]
    by_cases q7 : v = 7
    · rw [if_pos q7, if_pos q7]; exact ⟨I, J, rfl, rfl, h⟩
    rw [if_neg q7, if_neg q7]; exact ⟨I, J, rfl, rfl, h⟩
  by_cases q0 : v = 0
  · rw [if_pos q0]; exact go _ (by rw [if_pos q0, w2.1, w3, w1.1])
  rw [if_neg q0]
  by_cases q1 : v = 1
  · rw [if_pos q1]; exact go _ (by rw [if_neg q0, if_pos q1, k2.1, k1.1])
  rw [if_neg q1]
  by_cases q2 : v = 2
  · rw [if_pos q2]; exact go _ (by rw [if_neg q0, if_neg q1, if_pos q2, t3, t2])
  rw [if_neg q2]
  by_cases q3 : v = 3
  · rw [if_pos q3]; exact go _ (by rw [if_neg q0, if_neg q1, if_neg q2, if_pos q3, w4])
  rw [if_neg q3]
  by_cases q4 : v = 4
  · rw [if_pos q4]; exact go _ (by rw [if_neg q0, if_neg q1, if_neg q2, if_neg q3, if_pos q4, hg])
  rw [if_neg q4]
  by_cases q5 : v = 5
  · rw [if_pos q5]; exact go _ (by rw [if_neg q0, if_neg q1, if_neg q2, if_neg q3, if_neg q4, if_pos q5, p3, p2])
  rw [if_neg q5]
  by_cases q6 : v = 6
  · rw [if_pos q6]; exact go _ (by rw [if_neg q0, if_neg q1, if_neg q2, if_neg q3, if_neg q4, if_neg q5, if_pos q6, r3, r2])
  rw [if_neg q6]
  by_cases q7 : v = 7
  · rw [if_pos q7]; exact go _ (by rw [if_neg q0, if_neg q1, if_neg q2, if_neg q3, if_neg q4, if_neg q5, if_neg q6, if_pos q7, a4, a3])
  rw [if_neg q7]; exact go _ (by rw [if_neg q0, if_neg q1, if_neg q2, if_neg q3, if_neg q4, if_neg q5, if_neg q6, if_neg q7])
theorem two_line {Ω : mj_Om} {l : Launch} {I : Nat → Nat → Int32} {J : Nat → Nat → Int64} (v : Int32) (h : Rel I) : Two Ω l mX11_line mX12_line [.int v] I J := by
  obtain ⟨w1, w2, w3, w4, w5⟩ := id h.2.2.1
  have hn8 := w1.2
  refine inX11_lineT (Nat.le_of_ble_eq_true rfl) v I J ?_
  rw [w1.1]
  have go : ∀ x : Int32, (0 < nF I 39 ∧ ¬ v < 0 ∧ v < 7 → x = I 104 v.toNatClampNeg) → (¬ (0 < nF I 39 ∧ ¬ v < 0 ∧ v < 7) → x = -1) → TwoE Ω l mX12_line [.int v] (some (.int x)) (mk I J) := fun x h1 h2 => by
    refine ⟨_, I, J, rfl, rfl, inX12_lineT (Nat.le_of_ble_eq_true rfl) v I J ?_⟩
    rw [w2.1, w3]
    by_cases q0 : 0 < nF I 39
    case neg =>
      rw [if_neg (show ¬ (0 : Int32) < nI _ from nnl (a := 0) (by omega) (by omega)), h2 (fun w => q0 w.1)]; exact ⟨I, J, rfl, rfl, h⟩
    rw [if_pos (show (0 : Int32) < nI _ from nlt (a := 0) q0 (by omega))]
    by_cases q1 : v < 0
    · rw [if_pos q1, h2 (fun w => w.2.1 q1)]; exact ⟨I, J, rfl, rfl, h⟩
    rw [if_neg q1]
    have e : (6 < v) = ¬ v < 7 := by
      rw [Int32.lt_iff_toInt_lt, Int32.lt_iff_toInt_lt, show (6 : Int32).toInt = 6 from rfl, show (7 : Int32).toInt = 7 from rfl, Int.not_lt]
      exact propext ⟨fun w => by omega, fun w => by omega⟩
    by_cases q2 : v < 7
    case neg => rw [if_pos (by rw [e]; exact q2), h2 (fun w => q2 w.2.2)]; exact ⟨I, J, rfl, rfl, h⟩
    rw [if_neg (by rw [e]; exact fun w => w q2)]
    rw [h1 ⟨q0, q1, q2⟩]
    have ev := jn_of (Int32.not_lt.mp q1)
    have hv : v.toNatClampNeg < 7 := by
      rw [ev, show (7 : Int32) = nI 7 from rfl, jn_lt (cl_lt _) (by omega)] at q2; exact q2
    refine gd_pos (by rw [ev, jn_in (cl_lt _)]; exact decide_eq_true hv) ⟨I, J, rfl, rfl, h⟩
  by_cases q0 : 0 < nF I 39
  case neg =>
    rw [if_neg (show ¬ (0 : Int32) < nI _ from nnl (a := 0) (by omega) (by omega))]; exact go _ (fun w => absurd w.1 q0) (fun _ => rfl)
  rw [if_pos (show (0 : Int32) < nI _ from nlt (a := 0) q0 (by omega))]
  by_cases q1 : v < 0
  · rw [if_pos q1]; exact go _ (fun w => absurd q1 w.2.1) (fun _ => rfl)
  rw [if_neg q1]
  by_cases q2 : v < 7
  case neg => rw [if_neg q2]; exact go _ (fun w => absurd w.2.2 q2) (fun _ => rfl)
  rw [if_pos q2]
  have ev := jn_of (Int32.not_lt.mp q1)
  have hv : v.toNatClampNeg < 7 := by
    have q2' := q2
    rw [ev, show (7 : Int32) = nI 7 from rfl, jn_lt (cl_lt _) (by omega)] at q2'; exact q2'
  refine gd_pos (by rw [ev, jn_in (cl_lt _)]; exact decide_eq_true hv) (go _ (fun _ => ?_) (fun w => absurd ⟨q0, q1, q2⟩ w))
  have := congrFun (w5 q0).1 v.toNatClampNeg
  unfold lv7 at this
  rw [if_pos hv, if_pos hv] at this
  exact this.symm
/-- what the class does alone doesn't touch the reference -/
theorem qM_hi {I I1 : Nat → Nat → Int32} {m : Nat} {R : RF} (h : qM I m R) (e : ∀ c k, 91 ≤ c → I1 c k = I c k) : qM I1 m R ∧ nM I1 = nM I ∧ VM I1 = VM I ∧ lv7 (I1 104) = lv7 (I 104) ∧ I1 106 48 = I 106 48 := by
  obtain ⟨q1, ⟨K, ⟨q2, q3, q4⟩, q5⟩, q6, q7, q8⟩ := h
  obtain ⟨nMe, VMe, oMe⟩ := MM_fr (I := I) (I1 := I1) (e 91 22 (by omega)) (fun k => e 105 k (by omega)) (fun k => e 106 k (by omega))
  have C4 : lv7 (I1 104) = lv7 (I 104) := lv7_fr (fun k => e 104 k (by omega))
  have S : I1 106 48 = I 106 48 := e 106 48 (by omega)
  exact ⟨⟨oMe q1, ⟨K, ⟨by rw [e 91 13 (by omega)]; exact q2, q3, fun r hr => CLM_fr (q4 r hr) (fun c k h1 h2 => e c k (by omega))⟩, q5⟩, by rw [nMe, C4, VMe, S]; exact q6, by rw [e 91 25 (by omega)]; exact q7, by rw [e 91 26 (by omega)]; exact q8⟩, nMe, VMe, C4, S⟩
theorem two_race {Ω : mj_Om} {l : Launch} {I : Nat → Nat → Int32} {J : Nat → Nat → Int64} (h : Rel I) : Two Ω l mX11_race mX12_race [] I J := by
  obtain ⟨m, K, k1, k2⟩ := id h.2.1
  have hq := Rel_c3 h k1 k2
  obtain ⟨r, r1, r2, r3, r4, r5⟩ := id h.2.2.2.2.2.2.1
  obtain ⟨w1, w2, w3, w4, w5⟩ := id h.2.2.1
  refine mnX11_race (Nat.le_of_ble_eq_true rfl) m (rfK m K) r I J ⟨hq.1, r1, r2⟩ (fun A hA => ⟨_, A, J, rfl, rfl, ?_⟩)
  obtain ⟨a1, a2, a3⟩ := hA
  obtain ⟨m1, m2, m3, m4, m5⟩ := qM_hi hq.2 (fun c k hc => a3 c k (by (try dsimp only); omega))
  refine mnX12_race (Nat.le_of_ble_eq_true rfl) m (rfK m K) r A J ⟨m1, r1, by rw [a3 91 42 (by (try dsimp only); omega)]; exact r3⟩ (fun B hB => ?_)
  obtain ⟨b1, b2, b3⟩ := hB
  rw [m2, m4, m5] at b1 b2 ⊢
  rw [m3] at b1
  refine ⟨B, J, by rw [race_al h], rfl, ?_⟩
  by_cases q : raceOk (nF I 39) (lv7 (I 27)) (I 39 9) r
  · have qM : raceOk (nM I) (lv7 (I 104)) (I 106 48) r := by rw [w3, w4, (w5 q.1).1]; exact q
    obtain ⟨c1, c2⟩ := a1 q
    obtain ⟨d1, d2⟩ := b1 qM
    refine Rel_race (P := fun b => nI (place (nF I 39) (lv7 (I 27)) (lv7 (I 27) 6) (VF I 39) b)) h q.2.2 r2 q.1 (by rw [b3 86 5 (by (try dsimp only); omega)]; exact c1) d1 (fun b hb => by rw [b3 90 b (by (try dsimp only); omega)]; exact c2 b hb) (fun b hb => ?_) (fun c k w => ?_)
    · rw [d2 b (by rw [w3]; exact hb), w3, (w5 q.1).1, (w5 q.1).2.1]
    · dsimp only at w
      rw [b3 c k (by (try dsimp only); omega)]; exact a3 c k (by (try dsimp only); omega)
  · have qM : ¬ raceOk (nM I) (lv7 (I 104)) (I 106 48) r := fun w => q (by
      have hn := w.1
      rw [w3] at hn
      rw [w3, w4, (w5 hn).1] at w; exact w)
    rw [← b2 qM, ← a2 q]; exact h
theorem two_picture {Ω : mj_Om} {l : Launch} {I : Nat → Nat → Int32} {J : Nat → Nat → Int64} (b x y : Int32) (h : Rel I) : Two Ω l mX11_picture mX12_picture [.int b, .int x, .int y] I J := by
  obtain ⟨m, K, k1, k2⟩ := id h.2.1
  have hq := Rel_c3 h k1 k2
  obtain ⟨p, r1, r2, r3, r5⟩ := id h.2.2.2.2.2.1
  obtain ⟨w1, w2, w3, w4, w5⟩ := id h.2.2.1
  have hn8 := w1.2
  refine mnX11_pictureS (Nat.le_of_ble_eq_true rfl) b x y m (rfK m K) p I J ⟨hq.1, r1, r2⟩ (fun A hA => ⟨_, A, J, rfl, rfl, ?_⟩)
  obtain ⟨a1, a2⟩ := hA
  by_cases q : picOk (nF I 39) p b x y
  · have hA := a1 q
    have ok := q.1
    have aF : fr (fun c j => ((c = 87 ∨ c = 88 ∨ c = 89) ∧ j = b.toNatClampNeg) ∨ (c = 86 ∧ j = 4)) I A := by
      rw [hA]
      exact fr_ui (fr_ui (fr_ui (fr_ui fr_rf (Or.inl ⟨Or.inl rfl, rfl⟩)) (Or.inl ⟨Or.inr (Or.inl rfl), rfl⟩)) (Or.inl ⟨Or.inr (Or.inr rfl), rfl⟩)) (Or.inr ⟨rfl, rfl⟩)
    obtain ⟨m1, m2, m3, m4, m5⟩ := qM_hi hq.2 (fun c k hc => aF c k (by (try dsimp only); omega))
    refine mnX12_pictureS (Nat.le_of_ble_eq_true rfl) b x y m (rfK m K) p A J ⟨m1, r1, by rw [aF 91 40 (by (try dsimp only); omega)]; exact r3⟩ (fun B hB => ?_)
    rw [m2, w3] at hB ⊢
    have hB' := hB.1 q
    have bF : fr (fun c j => ((c = 115 ∨ c = 116 ∨ c = 117) ∧ j = p) ∨ (c = 91 ∧ j = 40)) A B := by
      rw [hB']
      exact fr_ui (fr_ui (fr_ui (fr_ui fr_rf (Or.inl ⟨Or.inl rfl, rfl⟩)) (Or.inl ⟨Or.inr (Or.inl rfl), rfl⟩)) (Or.inl ⟨Or.inr (Or.inr rfl), rfl⟩)) (Or.inr ⟨rfl, rfl⟩)
    have hb0 : 0 ≤ b ∧ b.toNatClampNeg < nF I 39 := ⟨ok.1, by
      have h2 := ok.2
      rw [jn_of ok.1, jn_lt (cl_lt _) (by omega)] at h2; exact h2⟩
    have eb := jn_of hb0.1
    have gB : ∀ c k, c < 91 → B c k = A c k := fun c k hc => bF c k (by (try dsimp only); omega)
    refine ⟨B, J, rfl, rfl, Rel_pic (k := b.toNatClampNeg) (x := x) (y := y) h q.2.2.2.2 r2 hb0.2 (by rw [gB 86 4 (by decide), hA, ui_s]) (by rw [hB', ui_s]) ?_ ?_ ?_ ?_ ?_ ?_ (fun c j w => ?_)⟩
    · rw [hB', ui_c (by decide), ui_c (by decide), ui_c (by decide), ui_s]; exact eb
    · rw [hB', ui_c (by decide), ui_c (by decide), ui_s]
    · rw [hB', ui_c (by decide), ui_s]
    · rw [gB 87 _ (by decide), hA, ui_c (by decide), ui_c (by decide), ui_c (by decide), ui_s]
    · rw [gB 88 _ (by decide), hA, ui_c (by decide), ui_c (by decide), ui_s]
    · rw [gB 89 _ (by decide), hA, ui_c (by decide), ui_s]
    · dsimp only at w
      rw [bF c j (by (try dsimp only); omega)]; exact aF c j (by (try dsimp only); omega)
  · have hA := a2 q
    subst hA
    refine mnX12_pictureS (Nat.le_of_ble_eq_true rfl) b x y m (rfK m K) p I J ⟨hq.2, r1, r3⟩ (fun B hB => ?_)
    rw [w3] at hB ⊢
    refine ⟨B, J, rfl, rfl, ?_⟩
    rw [← hB.2 q]; exact h
theorem two_image {Ω : mj_Om} {l : Launch} {I : Nat → Nat → Int32} {J : Nat → Nat → Int64} (h : Rel I) : Two Ω l mX11_image mX12_image [] I J := by
  obtain ⟨w1, w2, w3, w4, w5⟩ := id h.2.2.1
  refine mnX11_image (Nat.le_of_ble_eq_true rfl) I J w1 (fun A hA => ⟨_, A, J, rfl, rfl, ?_⟩)
  obtain ⟨a1, a2, a3⟩ := hA
  have e : ∀ c k, 91 ≤ c → A c k = I c k := fun c k hc => a3 c k (by (try dsimp only); omega)
  obtain ⟨nMe, VMe, oMe⟩ := MM_fr (I := I) (I1 := A) (e 91 22 (by omega)) (fun k => e 105 k (by omega)) (fun k => e 106 k (by omega))
  refine mnX12_image (Nat.le_of_ble_eq_true rfl) A J (oMe w2) (fun B hB => ?_)
  obtain ⟨b1, b2, b3⟩ := hB
  rw [nMe, w3] at b1 b2 ⊢
  rw [e 106 48 (by omega), w4]
  refine ⟨B, J, rfl, rfl, ?_⟩
  by_cases q : 0 < nF I 39
  · obtain ⟨c1, c2, c3, c4, c5⟩ := a1 q
    obtain ⟨d1, d2⟩ := b1 q
    obtain ⟨n6, V6, o6, s6⟩ := FF_fr (I := A) (I1 := B) (f := 66) (fun c k h1 h2 => b3 c k (by (try dsimp only); omega))
    refine Rel_image h q (o6 c1) (by rw [n6]; exact c2) (by rw [V6]; exact c3) (by rw [s6]; exact c4) (by rw [b3 0 16 (by (try dsimp only); omega)]; exact c5) (fun k hk => by rw [d1 k hk]; exact e 106 k (by omega)) d2 (fun c k w => ?_)
    dsimp only at w
    rw [b3 c k (by (try dsimp only); omega)]; exact a3 c k (by (try dsimp only); omega)
  · rw [← b2 (by omega), ← a2 (by omega)]; exact h
theorem two_back {Ω : mj_Om} {l : Launch} {I : Nat → Nat → Int32} {J : Nat → Nat → Int64} (h : Rel I) : Two Ω l mX11_back mX12_back [] I J := by
  obtain ⟨i1, i2, i3⟩ := id h.2.2.2.2.1
  have one : ¬ I 0 16 = 0 → I 0 16 = 1 := fun w => i2.resolve_left w
  refine mnX11_back (Nat.le_of_ble_eq_true rfl) I J (fun w => (i3 (one w)).2.1) (fun A hA => ⟨_, A, J, rfl, rfl, ?_⟩)
  obtain ⟨a1, a2, a3⟩ := hA
  have e : ∀ c k, 91 ≤ c → A c k = I c k := fun c k hc => a3 c k (by (try dsimp only); omega)
  refine mnX12_back (Nat.le_of_ble_eq_true rfl) A J (fun B hB => ?_)
  obtain ⟨b1, b2, b3⟩ := hB
  rw [e 91 44 (by omega), ← i1] at b1 b2 ⊢
  by_cases q : I 0 16 = 0
  · refine ⟨B, J, ?_, rfl, ?_⟩
    · unfold backV; rw [cif_t q, cif_t q]
    · rw [← b2 q, ← a2 q]; exact h
  · obtain ⟨c1, c2, c3, c4, c5⟩ := a1 q
    obtain ⟨d1, d2⟩ := b1 q
    obtain ⟨y0, y1, y2, y3, y4, y5⟩ := i3 (one q)
    obtain ⟨n6, V6, o6, s6⟩ := FF_fr (I := A) (I1 := B) (f := 39) (fun c k h1 h2 => b3 c k (by (try dsimp only); omega))
    refine ⟨B, J, ?_, rfl, Rel_back h (one q) (o6 c1) (by rw [n6]; exact c2) (by rw [V6]; exact c3) (by rw [s6]; exact c4) (by rw [b3 80 2 (by (try dsimp only); omega)]; exact c5) (fun k hk => by rw [d1 k hk]; exact e 119 k (by omega)) d2 (fun c k w => ?_)⟩
    · rw [e 119 48 (by omega), ← y4]
    · dsimp only at w
      rw [b3 c k (by (try dsimp only); omega)]; exact a3 c k (by (try dsimp only); omega)
