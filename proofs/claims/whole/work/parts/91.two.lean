/-! ===== a call on both sides; fault, text (by program, wip/whole/p91.py) ===== -/
def TwoE (Ω : mj_Om) (l : Launch) (mr : mj_m) (as : List Value) : Option Value → mj_M → Prop := fun r M => ∃ (v : Int32) (I1 : Nat → Nat → Int32) (J1 : Nat → Nat → Int64), r = some (.int v) ∧ M = mk I1 J1 ∧ mj_Met Ω l false mr 60 0 0 (.ref 91 :: as) (mk I1 J1) (fun r' M' => ∃ (I2 : Nat → Nat → Int32) (J2 : Nat → Nat → Int64), r' = some (.int v) ∧ M' = mk I2 J2 ∧ Rel I2)
/-- class, then reference: the same answer, and the relation kept -/
def Two (Ω : mj_Om) (l : Launch) (mc mr : mj_m) (as : List Value) (I : Nat → Nat → Int32) (J : Nat → Nat → Int64) : Prop := mj_Met Ω l false mc 60 0 0 (.ref 0 :: as) (mk I J) (TwoE Ω l mr as)
theorem Rel_T {I : Nat → Nat → Int32} (h : Rel I) : ∃ t, TC I t (I 2) ∧ TM I t (I 2) := by
  obtain ⟨t, h1, h2, h3, h4⟩ := h.1
  exact ⟨t, ⟨⟨h1, fun k hk => (h4 k hk).2⟩, h2, fun k hk => rfl⟩, ⟨⟨h1, fun k hk => (h4 k hk).2⟩, h3, fun k hk => (h4 k hk).1.symm⟩⟩
theorem w_Scr {I I1 : Nat → Nat → Int32} (h : fr wFr I I1) : fr Scr I I1 := fr_mo h (fun c k w => by unfold wFr at w; unfold Scr; omega)
theorem c_Scr {I I1 : Nat → Nat → Int32} (h : fr cFr I I1) : fr Scr I I1 := fr_mo h (fun c k w => by unfold cFr at w; unfold Scr; omega)
theorem rw_Scr {I I1 : Nat → Nat → Int32} (h : fr rwF I I1) : fr Scr I I1 := fr_mo h (fun c k w => by unfold rwF at w; unfold Scr; omega)
theorem wF4_Scr {I I1 : Nat → Nat → Int32} (h : fr (wF 4) I I1) : fr Scr I I1 := fr_mo h (fun c k w => by unfold wF at w; unfold Scr; omega)
theorem TM_S {I I1 : Nat → Nat → Int32} {t : Nat} {τ : Nat → Int32} (h : TM I t τ) (e : fr Scr I I1) : TM I1 t τ := TM_fr h (e 91 2 (by unfold Scr; omega)) (fun k => e 92 k (by unfold Scr; omega))
def csX11_fault : List (Nat × Nat × Nat × mj_PT) := [(117, 0, 1, mj_rcv 10 tX10_findFault), (121, 0, 1, mj_rcv 7 tX7_findFault)]
theorem csX11_fault_ok : mj_Cs mX11_fault 36 csX11_fault := (mj_CsV (D' := 9) (ci := 10) (q := (RX10, TX10, 5)) sdX10_findFault (Nat.le_of_ble_eq_true rfl) fX10_findFault rfl rfl iX10_findFault vX10_findFault (by decide +kernel) l11_117 (mj_CsV (D' := 35) (ci := 7) (q := (RX7, TX7, 3)) sdX7_findFault (Nat.le_of_ble_eq_true rfl) fX7_findFault rfl rfl iX7_findFault vX7_findFault (by decide +kernel) l11_121 mj_Cs0))
def cutX11_fault : List (Nat × List Bool) := []
set_option maxRecDepth 100000 in
set_option maxHeartbeats 4000000 in
theorem inX11_fault {Ω : mj_Om} {l : Launch} {d : Nat} {Φ : Option Value → mj_M → Prop} (hd : 36 ≤ d) (s : Int32) (I : Nat → Nat → Int32) (J : Nat → Nat → Int64)
    (h : ((if s = (0 : Int32) then ((11 = 11 ∧ mj_isk (mk I J)) ∧ (∃ t3065 : Nat, (∃ τ3066 : Nat → Int32, ((TC I t3065 τ3066) ∧ (∀ I3067 : Nat → Nat → Int32, (fr wFr I I3067 ∧ ∀ s, wtP t3065 τ3066 = .ok s → wsC I3067 s) → (Φ (some (.int (faR (wtP t3065 τ3066)))) (mk I3067 J))))))) else (if s = (1 : Int32) then ((24 = 24 ∧ mj_isk (mk I J)) ∧ (∃ t3069 : Nat, (∃ τ3070 : Nat → Int32, ((TC I t3069 τ3070) ∧ (∀ I3071 : Nat → Nat → Int32, (fr cFr I I3071 ∧ ∀ ks, ruP t3069 τ3070 = .ok ks → Cd I3071 0 (flatK 0 ks) (I 25)) → (Φ (some (.int (faR (ruP t3069 τ3070)))) (mk I3071 J))))))) else (Φ (some (.int (-2 : Int32))) (mk I J)))))) :
    mj_Met Ω l false mX11_fault d 0 0 [.ref 0, .int s] (mk I J) Φ := mj_entry (by decide) rfl (fun h => (by cases h)) (Nat.le_of_ble_eq_true rfl) (mj_blk (μ := mX11_fault) (P := pX11_fault) (cut := cutX11_fault) (cs := csX11_fault) dX11_fault csX11_fault_ok hd 16 0 _ h)
def csX11_text : List (Nat × Nat × Nat × mj_PT) := [(122, 0, 1, mj_rcv 11 tX11_takeWater), (125, 0, 1, mj_rcv 11 tX11_takeRule)]
theorem csX11_text_ok : mj_Cs mX11_text 37 csX11_text := (mj_CsV (D' := 10) (ci := 11) (q := (RX11, TX11, 18)) sdX11_takeWater (Nat.le_of_ble_eq_true rfl) fX11_takeWater rfl rfl iX11_takeWater vX11_takeWater (by decide +kernel) l11_122 (mj_CsV (D' := 36) (ci := 11) (q := (RX11, TX11, 18)) sdX11_takeRule (Nat.le_of_ble_eq_true rfl) fX11_takeRule rfl rfl iX11_takeRule vX11_takeRule (by decide +kernel) l11_125 mj_Cs0))
def cutX11_text : List (Nat × List Bool) := []
set_option maxRecDepth 100000 in
set_option maxHeartbeats 4000000 in
theorem inX11_text {Ω : mj_Om} {l : Launch} {d : Nat} {Φ : Option Value → mj_M → Prop} (hd : 37 ≤ d) (s : Int32) (I : Nat → Nat → Int32) (J : Nat → Nat → Int64)
    (h : ((if s = (0 : Int32) then ((0 = 0 ∧ mj_isk (mk I J)) ∧ (∃ t3082 : Nat, (∃ τ3083 : Nat → Int32, ((TC I t3082 τ3083) ∧ (∀ I3084 : Nat → Nat → Int32, ((∀ e, wtP t3082 τ3083 = .error e → fr wFr I I3084) ∧ ∀ s, wtP t3082 τ3083 = .ok s → tkW s I I3084) → (Φ (some (.int (twR (wtP t3082 τ3083)))) (mk I3084 J))))))) else (if s = (1 : Int32) then ((0 = 0 ∧ mj_isk (mk I J)) ∧ (∃ t3086 : Nat, (∃ τ3087 : Nat → Int32, (∃ m3088 : Nat, ((TC I t3086 τ3087 ∧ I 3 3 = nI m3088 ∧ m3088 ≤ 4) ∧ (∀ I3089 : Nat → Nat → Int32, (tkC m3088 (ruP t3086 τ3087) I I3089) → (Φ (some (.int (trR m3088 (ruP t3086 τ3087)))) (mk I3089 J)))))))) else (Φ (some (.int (-1 : Int32))) (mk I J)))))) :
    mj_Met Ω l false mX11_text d 0 0 [.ref 0, .int s] (mk I J) Φ := mj_entry (by decide) rfl (fun h => (by cases h)) (Nat.le_of_ble_eq_true rfl) (mj_blk (μ := mX11_text) (P := pX11_text) (cut := cutX11_text) (cs := csX11_text) dX11_text csX11_text_ok hd 14 0 _ h)
def csX12_fault : List (Nat × Nat × Nat × mj_PT) := [(249, 0, 1, mj_rcv 12 tX12_readWater), (252, 0, 2, mj_rcv 12 tX12_readLaw)]
theorem csX12_fault_ok : mj_Cs mX12_fault 44 csX12_fault := (mj_CsV (D' := 5) (ci := 12) (q := (RX12, TX12, 45)) sdX12_readWater (Nat.le_of_ble_eq_true rfl) fX12_readWater rfl rfl iX12_readWater vX12_readWater (by decide +kernel) l12_249 (mj_CsV (D' := 43) (ci := 12) (q := (RX12, TX12, 45)) sdX12_readLaw (Nat.le_of_ble_eq_true rfl) fX12_readLaw rfl rfl iX12_readLaw vX12_readLaw (by decide +kernel) l12_252 mj_Cs0))
def cutX12_fault : List (Nat × List Bool) := []
set_option maxRecDepth 100000 in
set_option maxHeartbeats 4000000 in
theorem inX12_fault {Ω : mj_Om} {l : Launch} {d : Nat} {Φ : Option Value → mj_M → Prop} (hd : 44 ≤ d) (s : Int32) (I : Nat → Nat → Int32) (J : Nat → Nat → Int64)
    (h : ((if s = (0 : Int32) then ((91 = 91 ∧ mj_isk (mk I J)) ∧ (∃ t3100 : Nat, (∃ τ3101 : Nat → Int32, ((TM I t3100 τ3101) ∧ (∀ I3102 : Nat → Nat → Int32, (fr rwF I I3102 ∧ ∀ s, wtP t3100 τ3101 = .ok s → wsM I3102 s) → (Φ (some (.int (faR (wtP t3100 τ3101)))) (mk I3102 J))))))) else (if s = (1 : Int32) then ((91 = 91 ∧ mj_isk (mk I J)) ∧ (∃ x3104 : Nat, (4 : Int32) = nI x3104 ∧ (∃ t3105 : Nat, (∃ τ3106 : Nat → Int32, ((TM I t3105 τ3106 ∧ x3104 ≤ 4) ∧ (∀ I3107 : Nat → Nat → Int32, (fr (wF x3104) I I3107 ∧ ∀ ks, ruP t3105 τ3106 = .ok ks → CLM I3107 x3104 ks) → (Φ (some (.int (faR (ruP t3105 τ3106)))) (mk I3107 J)))))))) else (Φ (some (.int (-2 : Int32))) (mk I J)))))) :
    mj_Met Ω l false mX12_fault d 0 0 [.ref 91, .int s] (mk I J) Φ := mj_entry (by decide) rfl (fun h => (by cases h)) (Nat.le_of_ble_eq_true rfl) (mj_blk (μ := mX12_fault) (P := pX12_fault) (cut := cutX12_fault) (cs := csX12_fault) dX12_fault csX12_fault_ok hd 15 0 _ h)
def csX12_text : List (Nat × Nat × Nat × mj_PT) := [(249, 0, 1, mj_rcv 12 tX12_readWater), (252, 0, 2, mj_rcv 12 tX12_readLaw), (277, 0, 1, mj_rcv 12 tX12_takeWater)]
theorem csX12_text_ok : mj_Cs mX12_text 44 csX12_text := (mj_CsV (D' := 5) (ci := 12) (q := (RX12, TX12, 45)) sdX12_readWater (Nat.le_of_ble_eq_true rfl) fX12_readWater rfl rfl iX12_readWater vX12_readWater (by decide +kernel) l12_249 (mj_CsV (D' := 43) (ci := 12) (q := (RX12, TX12, 45)) sdX12_readLaw (Nat.le_of_ble_eq_true rfl) fX12_readLaw rfl rfl iX12_readLaw vX12_readLaw (by decide +kernel) l12_252 (mj_CsV (D' := 3) (ci := 12) (q := (RX12, TX12, 45)) sdX12_takeWater (Nat.le_of_ble_eq_true rfl) fX12_takeWater rfl rfl iX12_takeWater vX12_takeWater (by decide +kernel) l12_277 mj_Cs0)))
def cutX12_text : List (Nat × List Bool) := []
set_option maxRecDepth 100000 in
set_option maxHeartbeats 4000000 in
theorem inX12_text {Ω : mj_Om} {l : Launch} {d : Nat} {Φ : Option Value → mj_M → Prop} (hd : 44 ≤ d) (s : Int32) (I : Nat → Nat → Int32) (J : Nat → Nat → Int64)
    (h : ((if s = (0 : Int32) then ((91 = 91 ∧ mj_isk (mk I J)) ∧ (∃ t3126 : Nat, (∃ τ3127 : Nat → Int32, ((TM I t3126 τ3127) ∧ (∀ I3128 : Nat → Nat → Int32, (fr rwF I I3128 ∧ ∀ s, wtP t3126 τ3127 = .ok s → wsM I3128 s) → (if (faR (wtP t3126 τ3127)) = (-1 : Int32) then ((91 = 91 ∧ mj_isk (mk (mj_ui I3128 91 2 (0 : Int32)) J)) ∧ (∃ n3130 : Nat, (((mj_ui I3128 91 2 (0 : Int32)) 91 19 = nI n3130 ∧ n3130 ≤ 8) ∧ (∀ I3131 : Nat → Nat → Int32, (tkM (mj_ui I3128 91 2 (0 : Int32)) I3131) → (Φ (some (.int (nI n3130))) (mk I3131 J)))))) else (if s = (1 : Int32) then (if (I3128 91 13) < (4 : Int32) then ((91 = 91 ∧ mj_isk (mk I3128 J)) ∧ (∃ x3133 : Nat, (I3128 91 13) = nI x3133 ∧ (∃ t3134 : Nat, (∃ τ3135 : Nat → Int32, ((TM I3128 t3134 τ3135 ∧ x3133 ≤ 4) ∧ (∀ I3136 : Nat → Nat → Int32, (fr (wF x3133) I3128 I3136 ∧ ∀ ks, ruP t3134 τ3135 = .ok ks → CLM I3136 x3133 ks) → (if (faR (ruP t3134 τ3135)) = (-1 : Int32) then (Φ (some (.int (((I3136 91 13) + (1 : Int32)) - (1 : Int32)))) (mk (mj_ui (mj_ui I3136 91 2 (0 : Int32)) 91 13 ((I3136 91 13) + (1 : Int32))) J)) else (Φ (some (.int (-1 : Int32))) (mk I3136 J))))))))) else (Φ (some (.int (-1 : Int32))) (mk I3128 J))) else (Φ (some (.int (-1 : Int32))) (mk I3128 J))))))))) else (if s = (1 : Int32) then (if (I 91 13) < (4 : Int32) then ((91 = 91 ∧ mj_isk (mk I J)) ∧ (∃ x3138 : Nat, (I 91 13) = nI x3138 ∧ (∃ t3139 : Nat, (∃ τ3140 : Nat → Int32, ((TM I t3139 τ3140 ∧ x3138 ≤ 4) ∧ (∀ I3141 : Nat → Nat → Int32, (fr (wF x3138) I I3141 ∧ ∀ ks, ruP t3139 τ3140 = .ok ks → CLM I3141 x3138 ks) → (if (faR (ruP t3139 τ3140)) = (-1 : Int32) then (Φ (some (.int (((I3141 91 13) + (1 : Int32)) - (1 : Int32)))) (mk (mj_ui (mj_ui I3141 91 2 (0 : Int32)) 91 13 ((I3141 91 13) + (1 : Int32))) J)) else (Φ (some (.int (-1 : Int32))) (mk I3141 J))))))))) else (Φ (some (.int (-1 : Int32))) (mk I J))) else (Φ (some (.int (-1 : Int32))) (mk I J)))))) :
    mj_Met Ω l false mX12_text d 0 0 [.ref 91, .int s] (mk I J) Φ := mj_entry (by decide) rfl (fun h => (by cases h)) (Nat.le_of_ble_eq_true rfl) (mj_blk (μ := mX12_text) (P := pX12_text) (cut := cutX12_text) (cs := csX12_text) dX12_text csX12_text_ok hd 42 0 _ h)
theorem two_fault {Ω : mj_Om} {l : Launch} {I : Nat → Nat → Int32} {J : Nat → Nat → Int64} (s : Int32) (h : Rel I) : Two Ω l mX11_fault mX12_fault [.int s] I J := by
  obtain ⟨t, hC, hM⟩ := Rel_T h
  refine inX11_fault (Nat.le_of_ble_eq_true rfl) s I J ?_
  by_cases q : s = 0
  · rw [if_pos q]
    refine ⟨⟨by trivial, mj_isk_mk _ _⟩, t, I 2, hC, fun A hA => ⟨_, A, J, rfl, rfl, ?_⟩⟩
    have aS := w_Scr hA.1
    refine inX12_fault (Nat.le_of_ble_eq_true rfl) s A J ?_
    rw [if_pos q]
    exact ⟨⟨by trivial, mj_isk_mk _ _⟩, t, I 2, TM_S hM aS, fun B hB => ⟨B, J, rfl, rfl, Rel_q h (fr_tr aS (rw_Scr hB.1))⟩⟩
  rw [if_neg q]
  by_cases q1 : s = 1
  · rw [if_pos q1]
    refine ⟨⟨by trivial, mj_isk_mk _ _⟩, t, I 2, hC, fun A hA => ⟨_, A, J, rfl, rfl, ?_⟩⟩
    have aS := c_Scr hA.1
    refine inX12_fault (Nat.le_of_ble_eq_true rfl) s A J ?_
    rw [if_neg q, if_pos q1]
    exact ⟨⟨by trivial, mj_isk_mk _ _⟩, 4, rfl, t, I 2, ⟨TM_S hM aS, by decide⟩, fun B hB => ⟨B, J, rfl, rfl, Rel_q h (fr_tr aS (wF4_Scr hB.1))⟩⟩
  · rw [if_neg q1]
    refine ⟨_, I, J, rfl, rfl, ?_⟩
    refine inX12_fault (Nat.le_of_ble_eq_true rfl) s I J ?_
    rw [if_neg q, if_neg q1]
    exact ⟨I, J, rfl, rfl, h⟩
/-- boats as this water has them -/
def wV (s : WS) : Vw := fun k b => if b < s.2.2.1 then (if k < 8 then cfB (s.2.2.2 b) k else 0) else 0
theorem rg_lo {x : Int32} {a : Int} {y : Int32} (h : ¬ x < y) (e : y.toInt = a) : a ≤ x.toInt := by rw [Int32.lt_iff_toInt_lt, e] at h; omega
theorem rg_hi {x : Int32} {a : Int} {y : Int32} (h : ¬ y < x) (e : y.toInt = a) : x.toInt ≤ a := by rw [Int32.lt_iff_toInt_lt, e] at h; omega
theorem wV_ok {s : WS} (hw : whole s) (hr : wRg s) : FOk 19 s.2.2.1 (lv7 s.2.1) (wV s) 0 := by
  obtain ⟨r1, r2, r3⟩ := hr
  have L := r1 hw.1
  have l : ∀ j, j < 7 → lv7 s.2.1 j = s.2.1 j := fun j hj => if_pos hj
  refine ⟨?_, ⟨by decide, ?_⟩, fun b hb => ?_⟩
  · unfold lineOk
    rw [l 0 (by decide), l 1 (by decide), l 2 (by decide), l 3 (by decide), l 4 (by decide), l 5 (by decide), l 6 (by decide)]
    exact ⟨⟨rg_lo (L 0 (by decide)).1 (by decide), rg_hi (L 0 (by decide)).2 (by decide)⟩, ⟨rg_lo (L 1 (by decide)).1 (by decide), rg_hi (L 1 (by decide)).2 (by decide)⟩, ⟨rg_lo (L 2 (by decide)).1 (by decide), rg_hi (L 2 (by decide)).2 (by decide)⟩, ⟨rg_lo (L 3 (by decide)).1 (by decide), rg_hi (L 3 (by decide)).2 (by decide)⟩, ⟨rg_lo (L 4 (by decide)).1 (by decide), rg_hi (L 4 (by decide)).2 (by decide)⟩, ⟨rg_lo (L 5 (by decide)).1 (by decide), rg_hi (L 5 (by decide)).2 (by decide)⟩, ⟨rg_lo (L 6 (by decide)).1 (by decide), rg_hi (L 6 (by decide)).2 (by decide)⟩⟩
  · rw [l 5 (by decide)]
    have : (1 : Int) ≤ (s.2.1 5).toInt := rg_lo (L 5 (by decide)).1 (by decide)
    rw [i_0]; omega
  · have B := r3 b hb
    obtain ⟨w1, w2, -⟩ := hw.2.2 b hb
    have v : ∀ k, k < 5 → wV s k b = s.2.2.2 b k := fun k hk => by unfold wV cfB; rw [if_pos hb, if_pos (by omega), if_pos hk]
    unfold bOk
    rw [v 0 (by decide), v 1 (by decide), v 2 (by decide), v 3 (by decide), v 4 (by decide), l 0 (by decide), i_0]
    have b1 : (0 : Int) ≤ (s.2.2.2 b 1).toInt := rg_lo (B 1 (by decide)).1 (by decide)
    rw [Int32.lt_iff_toInt_lt] at w1 w2
    exact ⟨⟨rg_lo (B 0 (by decide)).1 (by decide), w2⟩, ⟨by omega, rg_hi (B 1 (by decide)).2 (by decide)⟩, ⟨rg_lo (B 2 (by decide)).1 (by decide), by omega⟩, ⟨rg_lo (B 3 (by decide)).1 (by decide), rg_hi (B 3 (by decide)).2 (by decide)⟩, ⟨rg_lo (B 4 (by decide)).1 (by decide), rg_hi (B 4 (by decide)).2 (by decide)⟩⟩
set_option maxHeartbeats 4000000 in
theorem Rel_water {I I1 I2 I3 : Nat → Nat → Int32} {s : WS} (h : Rel I) (hw : whole s) (hr : wRg s) (h1 : tkW s I I1) (f2 : fr rwF I1 I2) (m2 : wsM I2 s) (h3 : tkM (mj_ui I2 91 2 0) I3) : Rel I3 := by
  obtain ⟨hT, hK, hW, hA, hI, hP, hR, hg, h25, h26⟩ := h
  obtain ⟨a1, a2, a3, a4, a5, a6, a7, a8, a9, a10, a11, a12, a13, a14⟩ := h1
  obtain ⟨b1, b2, b3, b4, b5, b6, b7, b8, b9, b10⟩ := h3
  have hn8 := hr.2.1
  have f3 : ∀ c k, ¬ tkFM c k → ¬ (c = 91 ∧ k = 2) → ¬ rwF c k → I3 c k = I1 c k := fun c k w1 w2 w3 => by
    rw [b10 c k w1]
    have : (mj_ui I2 91 2 0) c k = I2 c k := by
      by_cases z : c = 91
      · exact ui_k (fun zz => w2 ⟨z, zz⟩)
      · exact ui_c z
    rw [this]; exact f2 c k w3
  have g : ∀ c k, c < 91 → I3 c k = I1 c k := fun c k hc => f3 c k (by unfold tkFM; omega) (by omega) (by unfold rwF; omega)
  have e : ∀ c k, ¬ tkF c k → ¬ tkFM c k → ¬ (c = 91 ∧ k = 2) → ¬ rwF c k → I3 c k = I c k := fun c k w0 w1 w2 w3 => by rw [f3 c k w1 w2 w3]; exact a14 c k w0
  obtain ⟨n39, V39, o39, s39⟩ := FF_fr (I := I1) (I1 := I3) (f := 39) (fun c k h1 h2 => g c k (by omega))
  obtain ⟨n30, V30, o30, s30⟩ := FF_fr (I := I1) (I1 := I3) (f := 30) (fun c k h1 h2 => g c k (by omega))
  have hn : nF I3 39 = s.2.2.1 := by rw [n39, a7]
  have x22 : I3 91 22 = nI s.2.2.1 := by rw [b1, ui_k (by decide)]; exact m2.2.1
  have nM3 : nM I3 = s.2.2.1 := by unfold nM; rw [x22, jn_cl (by omega)]
  have C7 : lv7 (I3 27) = lv7 s.2.1 := by
    funext j
    unfold lv7
    by_cases q : j < 7
    · rw [if_pos q, if_pos q, g 27 j (by decide)]; exact a1 j q
    · rw [if_neg q, if_neg q]
  have C4 : lv7 (I3 104) = lv7 s.2.1 := by
    funext j
    unfold lv7
    by_cases q : j < 7
    · rw [if_pos q, if_pos q, b2 j q, ui_c (by decide)]; exact m2.1 hw.1 j q
    · rw [if_neg q, if_neg q]
  have W30 : VF I3 30 = wV s := by
    funext k b
    unfold wV
    by_cases q : b < s.2.2.1
    · rw [if_pos q]
      by_cases q2 : k < 8
      · rw [if_pos q2, V30]; exact a4 b q k q2
      · rw [if_neg q2, V30]; unfold VF vF; rw [if_pos (by rw [a3]; exact q), if_neg q2]
    · rw [if_neg q, V30]; unfold VF vF; rw [if_neg (by rw [a3]; exact q)]
  have x105 : ∀ b, b < s.2.2.1 → ∀ k, k < 6 → I3 105 (6 * b + k) = s.2.2.2 b k := fun b hb k hk => by rw [b3 _ (by omega), ui_c (by decide)]; exact m2.2.2 b hb k hk
  have bg : ∀ b, b < s.2.2.1 → bgV I3 b 0 = s.2.2.2 b 0 ∧ bgV I3 b 1 = s.2.2.2 b 1 ∧ bgV I3 b 2 = s.2.2.2 b 2 ∧ bgV I3 b 3 = cfB (s.2.2.2 b) 5 ∧ bgV I3 b 4 = 0 ∧ bgV I3 b 5 = 0 := fun b hb => ⟨x105 b hb 0 (by decide), x105 b hb 1 (by decide), x105 b hb 2 (by decide), by
      show (if I3 105 (6 * b + 5) = 4 then -1 else I3 105 (6 * b + 5)) = (if s.2.2.2 b 5 = 4 then -1 else s.2.2.2 b 5)
      rw [x105 b hb 5 (by decide)], rfl, rfl⟩
  have WB : vB s.2.2.1 I3 = wV s := by
    funext k b
    unfold vB wV
    by_cases q : b < s.2.2.1
    · simp only [q, if_true]
      obtain ⟨g0, g1, g2, g3, g4, g5⟩ := bg b q
      match k with
      | 0 => exact g0
      | 1 => exact g1
      | 2 => exact g2
      | 3 => exact x105 b q 3 (by decide)
      | 4 => exact x105 b q 4 (by decide)
      | 5 => exact g3
      | 6 => rfl
      | 7 => rfl
      | k + 8 => rw [if_neg (by omega)]; rfl
    · simp only [q, if_false]
  have WM : VM I3 = wV s := by
    rw [VM_vA, nM3]
    funext k b
    unfold vA wV
    by_cases q : b < s.2.2.1
    · simp only [q, if_true, Nat.zero_add]
      obtain ⟨g0, g1, g2, g3, g4, g5⟩ := bg b q
      have hb := fun j hj => b4 b j (by rw [nM3]; exact q) hj
      match k with
      | 0 => exact (hb 0 (by decide)).trans g0
      | 1 => exact (hb 1 (by decide)).trans g1
      | 2 => exact (hb 2 (by decide)).trans g2
      | 3 => exact x105 b q 3 (by decide)
      | 4 => exact x105 b q 4 (by decide)
      | 5 => exact (hb 3 (by decide)).trans g3
      | 6 => exact (hb 4 (by decide)).trans g4
      | 7 => exact (hb 5 (by decide)).trans g5
      | k + 8 => rw [if_neg (by omega)]; rfl
    · simp only [q, if_false]
  have W39 : VF I3 39 = wV s := by rw [V39, a8, ← V30, W30]
  have ok := wV_ok hw hr
  refine ⟨?_, relK_k hK (fun c k q => e c k (by unfold inK at q; unfold tkF wFr fgF; omega) (by unfold inK at q; unfold tkFM; omega) (by unfold inK at q; omega) (by unfold inK at q; unfold rwF; omega)), ?_, ?_, ?_, ?_, ?_, ?_, ?_, ?_⟩
  · exact ⟨0, by decide, by rw [g 1 1 (by decide)]; exact a13, by rw [b10 91 2 (by unfold tkFM; omega), ui_s]; rfl, fun k hk => absurd hk (Nat.not_lt_zero k)⟩
  · refine ⟨o39 a6, ⟨by rw [nM3]; exact x22, by rw [nM3]; exact hn8⟩, by rw [nM3, hn], by rw [b5, s39]; exact a9.symm, fun _ => ?_⟩
    rw [C4, C7, hn, WM, W39, s39, a9, n30, a3, s30, W30, WB]
    exact ⟨rfl, rfl, ok, o30 a2, rfl, a5, rfl, ok⟩
  · obtain ⟨a, nx, w1, w2, w3, w4, w5, w6, w7⟩ := hA
    refine ⟨0, nx, by omega, w2, by rw [g 80 2 (by decide)]; exact a10, b8, ?_, fun q => absurd q (Nat.lt_irrefl 0), fun j hj => absurd hj (Nat.not_lt_zero j)⟩
    rw [e 80 1 (by unfold tkF wFr fgF; omega) (by unfold tkFM; omega) (by omega) (by unfold rwF; omega)]; exact w5
  · have z : I3 0 16 = 0 := by rw [g 0 16 (by decide)]; exact a12
    exact ⟨by rw [z, b9], Or.inl z, fun q => absurd (z.symm.trans q) (by decide)⟩
  · refine ⟨0, by decide, by rw [g 86 4 (by decide)]; exact a11.1, b6, fun b hb => ?_⟩
    rw [hn] at hb
    obtain ⟨u1, u2, u3, u4⟩ := a11.2.2 b (by omega)
    exact ⟨by rw [g 87 b (by decide)]; exact u1, by rw [g 88 b (by decide)]; exact u2, by rw [g 89 b (by decide)]; exact u3⟩
  · refine ⟨0, by decide, by rw [g 86 5 (by decide)]; exact a11.2.1, b7, fun q => absurd q (Nat.lt_irrefl 0), fun b hb => ?_⟩
    rw [hn] at hb
    rw [g 90 b (by decide)]; exact (a11.2.2 b (by omega)).2.2.2
  · rw [e 0 17 (by unfold tkF wFr fgF; omega) (by unfold tkFM; omega) (by omega) (by unfold rwF; omega), e 91 24 (by unfold tkF wFr fgF; omega) (by unfold tkFM; omega) (by omega) (by unfold rwF; omega)]; exact hg
  · rw [e 91 25 (by unfold tkF wFr fgF; omega) (by unfold tkFM; omega) (by omega) (by unfold rwF; omega)]; exact h25
  · rw [e 91 26 (by unfold tkF wFr fgF; omega) (by unfold tkFM; omega) (by omega) (by unfold rwF; omega)]; exact h26
