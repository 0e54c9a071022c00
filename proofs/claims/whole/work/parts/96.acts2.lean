/-! ===== rule, mark, speed, steer, undo on both sides (by program, wip/whole/p96.py) ===== -/
theorem bm {n : Nat} {b : Int32} (hn : n ≤ 8) : (nI n - 1 < b) = ¬ b < nI n := by
  have e : (nI n - 1).toInt = (n : Int) - 1 := by rw [i_sub1 (by rw [jn_toInt (by omega)]; omega), jn_toInt (by omega)]
  rw [Int32.lt_iff_toInt_lt, Int32.lt_iff_toInt_lt, e, jn_toInt (by omega), Int.not_lt]
  exact propext ⟨fun w => by omega, fun w => by omega⟩
theorem lt3 {r : Int32} : (3 < r) = ¬ r < 4 := by
  rw [Int32.lt_iff_toInt_lt, Int32.lt_iff_toInt_lt, show (3 : Int32).toInt = 3 from rfl, show (4 : Int32).toInt = 4 from rfl, Int.not_lt]
  exact propext ⟨fun w => by omega, fun w => by omega⟩
/-- either no boat, or one by its number -/
theorem bt {n : Nat} (hn : n ≤ 8) (b : Int32) : (∃ k, k < n ∧ b = nI k) ∨ (b < 0 ∨ ¬ b < nI n) := by
  by_cases q : b < 0
  · exact Or.inr (Or.inl q)
  · by_cases q2 : b < nI n
    · have e := jn_of (Int32.not_lt.mp q)
      refine Or.inl ⟨b.toNatClampNeg, ?_, e⟩
      rw [e, jn_lt (cl_lt _) (by omega)] at q2
      exact q2
    · exact Or.inr (Or.inr q2)
theorem nn0 {k : Nat} (h : k < 100) : ¬ nI k < 0 := by rw [show (0 : Int32) = nI 0 from rfl, jn_lt (by omega) (by omega)]; omega
theorem relA_g {I : Nat → Nat → Int32} (h : Rel I) : ∃ a nx, a ≤ 40 ∧ nx < 40 ∧ I 80 2 = nI a ∧ I 91 31 = nI a ∧ I 80 1 = nI nx := by
  obtain ⟨a, nx, a1, a2, a3, a4, a5, -⟩ := h.2.2.2.1
  exact ⟨a, nx, a1, a2, a3, a4, a5⟩
def csX11_rule : List (Nat × Nat × Nat × mj_PT) := [(160, 0, 2, mj_rcv 11 tX11_isBoat), (211, 0, 2, mj_rcv 0 tX0_remember)]
theorem csX11_rule_ok : mj_Cs mX11_rule 3 csX11_rule := (mj_CsV (D' := 1) (ci := 11) (q := (RX11, TX11, 18)) sdX11_isBoat (Nat.le_of_ble_eq_true rfl) fX11_isBoat rfl rfl iX11_isBoat vX11_isBoat (by decide +kernel) l11_160 (mj_CsV (D' := 2) (ci := 0) (q := (RX0, TX0, 3)) sdX0_remember (Nat.le_of_ble_eq_true rfl) fX0_remember rfl rfl iX0_remember vX0_remember (by decide +kernel) l11_211 mj_Cs0))
def cutX11_rule : List (Nat × List Bool) := []
set_option maxRecDepth 100000 in
set_option maxHeartbeats 4000000 in
theorem inX11_rule {Ω : mj_Om} {l : Launch} {d : Nat} {Φ : Option Value → mj_M → Prop} (hd : 3 ≤ d) (b : Int32) (r : Int32) (I : Nat → Nat → Int32) (J : Nat → Nat → Int64)
    (h : ((if b < (0 : Int32) then (Φ (some (.int (-1 : Int32))) (mk I J)) else (if b < (I 39 8) then (if r < (-1 : Int32) then (Φ (some (.int (-1 : Int32))) (mk I J)) else (if r < (4 : Int32) then (mj_gd (mj_inB b 8) (if (I 45 (b).toNatClampNeg) = r then (Φ (some (.int (-1 : Int32))) (mk I J)) else ((80 = 80 ∧ 39 = 39 ∧ mj_isk (mk I J)) ∧ (∃ nx3147 : Nat, (∃ a3148 : Nat, ((I 80 1 = nI nx3147 ∧ nx3147 < 40 ∧ I 80 2 = nI a3148 ∧ a3148 ≤ 40) ∧ (∀ I3149 : Nat → Nat → Int32, (∃ A : Nat → Nat → Int32, wrP I (49 * nx3147) 49 A ∧ fr (fun c _ => c = 80) A I3149 ∧ I3149 80 1 = nI (nxA nx3147) ∧ I3149 80 2 = nI (ctA a3148)) → (mj_gd (mj_inB b 8) (Φ (some (.int (I3149 80 2))) (mk (mj_ui I3149 45 (b).toNatClampNeg r) J)))))))))) else (Φ (some (.int (-1 : Int32))) (mk I J)))) else (Φ (some (.int (-1 : Int32))) (mk I J)))))) :
    mj_Met Ω l false mX11_rule d 0 0 [.ref 0, .int b, .int r] (mk I J) Φ := mj_entry (by decide) rfl (fun h => (by cases h)) (Nat.le_of_ble_eq_true rfl) (mj_blk (μ := mX11_rule) (P := pX11_rule) (cut := cutX11_rule) (cs := csX11_rule) dX11_rule csX11_rule_ok hd 35 0 _ h)
def csX12_rule : List (Nat × Nat × Nat × mj_PT) := [(214, 1, 3, tX12_in), (274, 0, 4, mj_rcv 12 tX12_put_), (283, 0, 3, mj_rcv 12 tX12_of), (306, 0, 2, mj_rcv 12 tX12_isBoat), (358, 0, 1, mj_rcv 12 tX12_keep)]
theorem csX12_rule_ok : mj_Cs mX12_rule 3 csX12_rule := (mj_CsS (D' := 1) sdX12_in (Nat.le_of_ble_eq_true rfl) fX12_in sX12_in (by decide +kernel) l12_214 (mj_CsV (D' := 1) (ci := 12) (q := (RX12, TX12, 45)) sdX12_put_ (Nat.le_of_ble_eq_true rfl) fX12_put_ rfl rfl iX12_put_ vX12_put_ (by decide +kernel) l12_274 (mj_CsV (D' := 1) (ci := 12) (q := (RX12, TX12, 45)) sdX12_of (Nat.le_of_ble_eq_true rfl) fX12_of rfl rfl iX12_of vX12_of (by decide +kernel) l12_283 (mj_CsV (D' := 2) (ci := 12) (q := (RX12, TX12, 45)) sdX12_isBoat (Nat.le_of_ble_eq_true rfl) fX12_isBoat rfl rfl iX12_isBoat vX12_isBoat (by decide +kernel) l12_306 (mj_CsV (D' := 1) (ci := 12) (q := (RX12, TX12, 45)) sdX12_keep (Nat.le_of_ble_eq_true rfl) fX12_keep rfl rfl iX12_keep vX12_keep (by decide +kernel) l12_358 mj_Cs0)))))
def cutX12_rule : List (Nat × List Bool) := []
set_option maxRecDepth 100000 in
set_option maxHeartbeats 4000000 in
theorem inX12_rule {Ω : mj_Om} {l : Launch} {d : Nat} {Φ : Option Value → mj_M → Prop} (hd : 3 ≤ d) (b : Int32) (r : Int32) (I : Nat → Nat → Int32) (J : Nat → Nat → Int64)
    (h : ((if b < (0 : Int32) then (Φ (some (.int (-1 : Int32))) (mk I J)) else (if ((I 91 22) - (1 : Int32)) < b then (Φ (some (.int (-1 : Int32))) (mk I J)) else (if r < (-1 : Int32) then (Φ (some (.int (-1 : Int32))) (mk I J)) else (if (3 : Int32) < r then (Φ (some (.int (-1 : Int32))) (mk I J)) else (mj_gd (mj_inB (((6 : Int32) * b) + (3 : Int32)) 49) (if (I 106 ((((6 : Int32) * b) + (3 : Int32))).toNatClampNeg) = r then (Φ (some (.int (-1 : Int32))) (mk I J)) else ((91 = 91 ∧ mj_isk (mk I J)) ∧ (∃ a3154 : Nat, ((I 91 31 = nI a3154 ∧ a3154 ≤ 40) ∧ (∀ I3155 : Nat → Nat → Int32, (I3155 91 31 = nI (ctA a3154) ∧ (∀ k, k < 49 → I3155 110 (49 * (ctA a3154 - 1) + k) = I 106 k) ∧ (∀ k, k < 49 * (ctA a3154 - 1) → I3155 110 k = if a3154 = 40 then I 110 (k + 49) else I 110 k) ∧ fr (fun c k => c = 110 ∨ (c = 91 ∧ k = 31)) I I3155) → (mj_gd (mj_inB (((6 : Int32) * b) + (3 : Int32)) 49) (Φ (some (.int (I3155 91 31))) (mk (mj_ui I3155 106 ((((6 : Int32) * b) + (3 : Int32))).toNatClampNeg r) J))))))))))))))) :
    mj_Met Ω l false mX12_rule d 0 0 [.ref 91, .int b, .int r] (mk I J) Φ := mj_entry (by decide) rfl (fun h => (by cases h)) (Nat.le_of_ble_eq_true rfl) (mj_blk (μ := mX12_rule) (P := pX12_rule) (cut := cutX12_rule) (cs := csX12_rule) dX12_rule csX12_rule_ok hd 29 0 _ h)
def csX11_mark : List (Nat × Nat × Nat × mj_PT) := [(160, 0, 2, mj_rcv 11 tX11_isBoat), (211, 0, 2, mj_rcv 0 tX0_remember)]
theorem csX11_mark_ok : mj_Cs mX11_mark 3 csX11_mark := (mj_CsV (D' := 1) (ci := 11) (q := (RX11, TX11, 18)) sdX11_isBoat (Nat.le_of_ble_eq_true rfl) fX11_isBoat rfl rfl iX11_isBoat vX11_isBoat (by decide +kernel) l11_160 (mj_CsV (D' := 2) (ci := 0) (q := (RX0, TX0, 3)) sdX0_remember (Nat.le_of_ble_eq_true rfl) fX0_remember rfl rfl iX0_remember vX0_remember (by decide +kernel) l11_211 mj_Cs0))
def cutX11_mark : List (Nat × List Bool) := []
set_option maxRecDepth 100000 in
set_option maxHeartbeats 4000000 in
theorem inX11_mark {Ω : mj_Om} {l : Launch} {d : Nat} {Φ : Option Value → mj_M → Prop} (hd : 3 ≤ d) (b : Int32) (I : Nat → Nat → Int32) (J : Nat → Nat → Int64)
    (h : ((if b < (0 : Int32) then (Φ (some (.int (-1 : Int32))) (mk I J)) else (if b < (I 39 8) then (mj_gd (mj_inB b 8) (if (I 46 (b).toNatClampNeg) = (1 : Int32) then (Φ (some (.int (-1 : Int32))) (mk I J)) else ((80 = 80 ∧ 39 = 39 ∧ mj_isk (mk I J)) ∧ (∃ nx3161 : Nat, (∃ a3162 : Nat, ((I 80 1 = nI nx3161 ∧ nx3161 < 40 ∧ I 80 2 = nI a3162 ∧ a3162 ≤ 40) ∧ (∀ I3163 : Nat → Nat → Int32, (∃ A : Nat → Nat → Int32, wrP I (49 * nx3161) 49 A ∧ fr (fun c _ => c = 80) A I3163 ∧ I3163 80 1 = nI (nxA nx3161) ∧ I3163 80 2 = nI (ctA a3162)) → (mj_gd (mj_inB b 8) (Φ (some (.int (I3163 80 2))) (mk (mj_ui I3163 46 (b).toNatClampNeg (1 : Int32)) J)))))))))) else (Φ (some (.int (-1 : Int32))) (mk I J)))))) :
    mj_Met Ω l false mX11_mark d 0 0 [.ref 0, .int b] (mk I J) Φ := mj_entry (by decide) rfl (fun h => (by cases h)) (Nat.le_of_ble_eq_true rfl) (mj_blk (μ := mX11_mark) (P := pX11_mark) (cut := cutX11_mark) (cs := csX11_mark) dX11_mark csX11_mark_ok hd 29 0 _ h)
def csX12_mark : List (Nat × Nat × Nat × mj_PT) := [(274, 0, 4, mj_rcv 12 tX12_put_), (283, 0, 3, mj_rcv 12 tX12_of), (306, 0, 2, mj_rcv 12 tX12_isBoat), (358, 0, 1, mj_rcv 12 tX12_keep)]
theorem csX12_mark_ok : mj_Cs mX12_mark 3 csX12_mark := (mj_CsV (D' := 1) (ci := 12) (q := (RX12, TX12, 45)) sdX12_put_ (Nat.le_of_ble_eq_true rfl) fX12_put_ rfl rfl iX12_put_ vX12_put_ (by decide +kernel) l12_274 (mj_CsV (D' := 1) (ci := 12) (q := (RX12, TX12, 45)) sdX12_of (Nat.le_of_ble_eq_true rfl) fX12_of rfl rfl iX12_of vX12_of (by decide +kernel) l12_283 (mj_CsV (D' := 2) (ci := 12) (q := (RX12, TX12, 45)) sdX12_isBoat (Nat.le_of_ble_eq_true rfl) fX12_isBoat rfl rfl iX12_isBoat vX12_isBoat (by decide +kernel) l12_306 (mj_CsV (D' := 1) (ci := 12) (q := (RX12, TX12, 45)) sdX12_keep (Nat.le_of_ble_eq_true rfl) fX12_keep rfl rfl iX12_keep vX12_keep (by decide +kernel) l12_358 mj_Cs0))))
def cutX12_mark : List (Nat × List Bool) := []
set_option maxRecDepth 100000 in
set_option maxHeartbeats 4000000 in
theorem inX12_mark {Ω : mj_Om} {l : Launch} {d : Nat} {Φ : Option Value → mj_M → Prop} (hd : 3 ≤ d) (b : Int32) (I : Nat → Nat → Int32) (J : Nat → Nat → Int64)
    (h : ((if b < (0 : Int32) then (Φ (some (.int (-1 : Int32))) (mk I J)) else (if ((I 91 22) - (1 : Int32)) < b then (Φ (some (.int (-1 : Int32))) (mk I J)) else (mj_gd (mj_inB (((6 : Int32) * b) + (4 : Int32)) 49) (if (I 106 ((((6 : Int32) * b) + (4 : Int32))).toNatClampNeg) = (1 : Int32) then (Φ (some (.int (-1 : Int32))) (mk I J)) else ((91 = 91 ∧ mj_isk (mk I J)) ∧ (∃ a3168 : Nat, ((I 91 31 = nI a3168 ∧ a3168 ≤ 40) ∧ (∀ I3169 : Nat → Nat → Int32, (I3169 91 31 = nI (ctA a3168) ∧ (∀ k, k < 49 → I3169 110 (49 * (ctA a3168 - 1) + k) = I 106 k) ∧ (∀ k, k < 49 * (ctA a3168 - 1) → I3169 110 k = if a3168 = 40 then I 110 (k + 49) else I 110 k) ∧ fr (fun c k => c = 110 ∨ (c = 91 ∧ k = 31)) I I3169) → (mj_gd (mj_inB (((6 : Int32) * b) + (4 : Int32)) 49) (Φ (some (.int (I3169 91 31))) (mk (mj_ui I3169 106 ((((6 : Int32) * b) + (4 : Int32))).toNatClampNeg (1 : Int32)) J))))))))))))) :
    mj_Met Ω l false mX12_mark d 0 0 [.ref 91, .int b] (mk I J) Φ := mj_entry (by decide) rfl (fun h => (by cases h)) (Nat.le_of_ble_eq_true rfl) (mj_blk (μ := mX12_mark) (P := pX12_mark) (cut := cutX12_mark) (cs := csX12_mark) dX12_mark csX12_mark_ok hd 24 0 _ h)
def csX11_speed : List (Nat × Nat × Nat × mj_PT) := [(160, 0, 2, mj_rcv 11 tX11_isBoat), (211, 0, 2, mj_rcv 0 tX0_remember)]
theorem csX11_speed_ok : mj_Cs mX11_speed 3 csX11_speed := (mj_CsV (D' := 1) (ci := 11) (q := (RX11, TX11, 18)) sdX11_isBoat (Nat.le_of_ble_eq_true rfl) fX11_isBoat rfl rfl iX11_isBoat vX11_isBoat (by decide +kernel) l11_160 (mj_CsV (D' := 2) (ci := 0) (q := (RX0, TX0, 3)) sdX0_remember (Nat.le_of_ble_eq_true rfl) fX0_remember rfl rfl iX0_remember vX0_remember (by decide +kernel) l11_211 mj_Cs0))
def cutX11_speed : List (Nat × List Bool) := []
set_option maxRecDepth 100000 in
set_option maxHeartbeats 4000000 in
theorem inX11_speed {Ω : mj_Om} {l : Launch} {d : Nat} {Φ : Option Value → mj_M → Prop} (hd : 3 ≤ d) (b : Int32) (v : Int32) (I : Nat → Nat → Int32) (J : Nat → Nat → Int64)
    (h : ((if b < (0 : Int32) then (Φ (some (.int (-1 : Int32))) (mk I J)) else (if b < (I 39 8) then (if v < (0 : Int32) then (Φ (some (.int (-1 : Int32))) (mk I J)) else (mj_gd (mj_inB b 8) (if (I 43 (b).toNatClampNeg) < v then (Φ (some (.int (-1 : Int32))) (mk I J)) else (mj_gd (mj_inB b 8) (if (I 42 (b).toNatClampNeg) = v then (Φ (some (.int (-1 : Int32))) (mk I J)) else ((80 = 80 ∧ 39 = 39 ∧ mj_isk (mk I J)) ∧ (∃ nx3175 : Nat, (∃ a3176 : Nat, ((I 80 1 = nI nx3175 ∧ nx3175 < 40 ∧ I 80 2 = nI a3176 ∧ a3176 ≤ 40) ∧ (∀ I3177 : Nat → Nat → Int32, (∃ A : Nat → Nat → Int32, wrP I (49 * nx3175) 49 A ∧ fr (fun c _ => c = 80) A I3177 ∧ I3177 80 1 = nI (nxA nx3175) ∧ I3177 80 2 = nI (ctA a3176)) → (mj_gd (mj_inB b 8) (Φ (some (.int (I3177 80 2))) (mk (mj_ui I3177 42 (b).toNatClampNeg v) J))))))))))))) else (Φ (some (.int (-1 : Int32))) (mk I J)))))) :
    mj_Met Ω l false mX11_speed d 0 0 [.ref 0, .int b, .int v] (mk I J) Φ := mj_entry (by decide) rfl (fun h => (by cases h)) (Nat.le_of_ble_eq_true rfl) (mj_blk (μ := mX11_speed) (P := pX11_speed) (cut := cutX11_speed) (cs := csX11_speed) dX11_speed csX11_speed_ok hd 38 0 _ h)
def csX12_speed : List (Nat × Nat × Nat × mj_PT) := [(214, 1, 3, tX12_in), (274, 0, 4, mj_rcv 12 tX12_put_), (283, 0, 3, mj_rcv 12 tX12_of), (306, 0, 2, mj_rcv 12 tX12_isBoat), (309, 0, 2, mj_rcv 12 tX12_most), (358, 0, 1, mj_rcv 12 tX12_keep)]
theorem csX12_speed_ok : mj_Cs mX12_speed 3 csX12_speed := (mj_CsS (D' := 1) sdX12_in (Nat.le_of_ble_eq_true rfl) fX12_in sX12_in (by decide +kernel) l12_214 (mj_CsV (D' := 1) (ci := 12) (q := (RX12, TX12, 45)) sdX12_put_ (Nat.le_of_ble_eq_true rfl) fX12_put_ rfl rfl iX12_put_ vX12_put_ (by decide +kernel) l12_274 (mj_CsV (D' := 1) (ci := 12) (q := (RX12, TX12, 45)) sdX12_of (Nat.le_of_ble_eq_true rfl) fX12_of rfl rfl iX12_of vX12_of (by decide +kernel) l12_283 (mj_CsV (D' := 2) (ci := 12) (q := (RX12, TX12, 45)) sdX12_isBoat (Nat.le_of_ble_eq_true rfl) fX12_isBoat rfl rfl iX12_isBoat vX12_isBoat (by decide +kernel) l12_306 (mj_CsV (D' := 1) (ci := 12) (q := (RX12, TX12, 45)) sdX12_most (Nat.le_of_ble_eq_true rfl) fX12_most rfl rfl iX12_most vX12_most (by decide +kernel) l12_309 (mj_CsV (D' := 1) (ci := 12) (q := (RX12, TX12, 45)) sdX12_keep (Nat.le_of_ble_eq_true rfl) fX12_keep rfl rfl iX12_keep vX12_keep (by decide +kernel) l12_358 mj_Cs0))))))
def cutX12_speed : List (Nat × List Bool) := []
set_option maxRecDepth 100000 in
set_option maxHeartbeats 4000000 in
theorem inX12_speed {Ω : mj_Om} {l : Launch} {d : Nat} {Φ : Option Value → mj_M → Prop} (hd : 3 ≤ d) (b : Int32) (v : Int32) (I : Nat → Nat → Int32) (J : Nat → Nat → Int64)
    (h : ((if b < (0 : Int32) then (Φ (some (.int (-1 : Int32))) (mk I J)) else (if ((I 91 22) - (1 : Int32)) < b then (Φ (some (.int (-1 : Int32))) (mk I J)) else (mj_gd (mj_inB (((6 : Int32) * b) + (3 : Int32)) 48) (if v < (0 : Int32) then (Φ (some (.int (-1 : Int32))) (mk I J)) else (if (I 105 ((((6 : Int32) * b) + (3 : Int32))).toNatClampNeg) < v then (Φ (some (.int (-1 : Int32))) (mk I J)) else (mj_gd (mj_inB (((6 : Int32) * b) + (2 : Int32)) 49) (if (I 106 ((((6 : Int32) * b) + (2 : Int32))).toNatClampNeg) = v then (Φ (some (.int (-1 : Int32))) (mk I J)) else ((91 = 91 ∧ mj_isk (mk I J)) ∧ (∃ a3182 : Nat, ((I 91 31 = nI a3182 ∧ a3182 ≤ 40) ∧ (∀ I3183 : Nat → Nat → Int32, (I3183 91 31 = nI (ctA a3182) ∧ (∀ k, k < 49 → I3183 110 (49 * (ctA a3182 - 1) + k) = I 106 k) ∧ (∀ k, k < 49 * (ctA a3182 - 1) → I3183 110 k = if a3182 = 40 then I 110 (k + 49) else I 110 k) ∧ fr (fun c k => c = 110 ∨ (c = 91 ∧ k = 31)) I I3183) → (mj_gd (mj_inB (((6 : Int32) * b) + (2 : Int32)) 49) (Φ (some (.int (I3183 91 31))) (mk (mj_ui I3183 106 ((((6 : Int32) * b) + (2 : Int32))).toNatClampNeg v) J)))))))))))))))) :
    mj_Met Ω l false mX12_speed d 0 0 [.ref 91, .int b, .int v] (mk I J) Φ := mj_entry (by decide) rfl (fun h => (by cases h)) (Nat.le_of_ble_eq_true rfl) (mj_blk (μ := mX12_speed) (P := pX12_speed) (cut := cutX12_speed) (cs := csX12_speed) dX12_speed csX12_speed_ok hd 31 0 _ h)
def csX11_steer : List (Nat × Nat × Nat × mj_PT) := [(160, 0, 2, mj_rcv 11 tX11_isBoat), (211, 0, 2, mj_rcv 0 tX0_remember), (215, 0, 2, mj_rcv 1 tX1_hasColumn), (218, 0, 3, mj_rcv 3 tX3_isHeld)]
theorem csX11_steer_ok : mj_Cs mX11_steer 3 csX11_steer := (mj_CsV (D' := 1) (ci := 11) (q := (RX11, TX11, 18)) sdX11_isBoat (Nat.le_of_ble_eq_true rfl) fX11_isBoat rfl rfl iX11_isBoat vX11_isBoat (by decide +kernel) l11_160 (mj_CsV (D' := 2) (ci := 0) (q := (RX0, TX0, 3)) sdX0_remember (Nat.le_of_ble_eq_true rfl) fX0_remember rfl rfl iX0_remember vX0_remember (by decide +kernel) l11_211 (mj_CsV (D' := 1) (ci := 1) (q := (RX1, TX1, 1)) sdX1_hasColumn (Nat.le_of_ble_eq_true rfl) fX1_hasColumn rfl rfl iX1_hasColumn vX1_hasColumn (by decide +kernel) l11_215 (mj_CsV (D' := 1) (ci := 3) (q := (RX3, TX3, 10)) sdX3_isHeld (Nat.le_of_ble_eq_true rfl) fX3_isHeld rfl rfl iX3_isHeld vX3_isHeld (by decide +kernel) l11_218 mj_Cs0))))
def cutX11_steer : List (Nat × List Bool) := []
set_option maxRecDepth 100000 in
set_option maxHeartbeats 4000000 in
theorem inX11_steer {Ω : mj_Om} {l : Launch} {d : Nat} {Φ : Option Value → mj_M → Prop} (hd : 3 ≤ d) (b : Int32) (y : Int32) (I : Nat → Nat → Int32) (J : Nat → Nat → Int64)
    (h : ((if b < (0 : Int32) then (Φ (some (.int (-1 : Int32))) (mk I J)) else (if b < (I 39 8) then (if y = (-1 : Int32) then (mj_gd (mj_inB b 8) (if ((I 40 (b).toNatClampNeg) + y) < (0 : Int32) then (Φ (some (.int (-1 : Int32))) (mk I J)) else (if ((I 40 (b).toNatClampNeg) + y) < (I 27 0) then (mj_gd (mj_inB b 8) ((isF3 39 ∧ mj_isk (mk I J)) ∧ ((okF I 39) ∧ (if (b2i (held (nF I 39) (VF I 39) ((I 40 (b).toNatClampNeg) + y) (I 41 (b).toNatClampNeg))) = (0 : Int32) then ((80 = 80 ∧ 39 = 39 ∧ mj_isk (mk I J)) ∧ (∃ nx3193 : Nat, (∃ a3194 : Nat, ((I 80 1 = nI nx3193 ∧ nx3193 < 40 ∧ I 80 2 = nI a3194 ∧ a3194 ≤ 40) ∧ (∀ I3195 : Nat → Nat → Int32, (∃ A : Nat → Nat → Int32, wrP I (49 * nx3193) 49 A ∧ fr (fun c _ => c = 80) A I3195 ∧ I3195 80 1 = nI (nxA nx3193) ∧ I3195 80 2 = nI (ctA a3194)) → (mj_gd (mj_inB b 8) (Φ (some (.int ((I 40 (b).toNatClampNeg) + y))) (mk (mj_ui I3195 40 (b).toNatClampNeg ((I 40 (b).toNatClampNeg) + y)) J)))))))) else (Φ (some (.int (-1 : Int32))) (mk I J)))))) else (Φ (some (.int (-1 : Int32))) (mk I J))))) else (if y = (1 : Int32) then (mj_gd (mj_inB b 8) (if ((I 40 (b).toNatClampNeg) + y) < (0 : Int32) then (Φ (some (.int (-1 : Int32))) (mk I J)) else (if ((I 40 (b).toNatClampNeg) + y) < (I 27 0) then (mj_gd (mj_inB b 8) ((isF3 39 ∧ mj_isk (mk I J)) ∧ ((okF I 39) ∧ (if (b2i (held (nF I 39) (VF I 39) ((I 40 (b).toNatClampNeg) + y) (I 41 (b).toNatClampNeg))) = (0 : Int32) then ((80 = 80 ∧ 39 = 39 ∧ mj_isk (mk I J)) ∧ (∃ nx3197 : Nat, (∃ a3198 : Nat, ((I 80 1 = nI nx3197 ∧ nx3197 < 40 ∧ I 80 2 = nI a3198 ∧ a3198 ≤ 40) ∧ (∀ I3199 : Nat → Nat → Int32, (∃ A : Nat → Nat → Int32, wrP I (49 * nx3197) 49 A ∧ fr (fun c _ => c = 80) A I3199 ∧ I3199 80 1 = nI (nxA nx3197) ∧ I3199 80 2 = nI (ctA a3198)) → (mj_gd (mj_inB b 8) (Φ (some (.int ((I 40 (b).toNatClampNeg) + y))) (mk (mj_ui I3199 40 (b).toNatClampNeg ((I 40 (b).toNatClampNeg) + y)) J)))))))) else (Φ (some (.int (-1 : Int32))) (mk I J)))))) else (Φ (some (.int (-1 : Int32))) (mk I J))))) else (Φ (some (.int (-1 : Int32))) (mk I J)))) else (Φ (some (.int (-1 : Int32))) (mk I J)))))) :
    mj_Met Ω l false mX11_steer d 0 0 [.ref 0, .int b, .int y] (mk I J) Φ := mj_entry (by decide) rfl (fun h => (by cases h)) (Nat.le_of_ble_eq_true rfl) (mj_blk (μ := mX11_steer) (P := pX11_steer) (cut := cutX11_steer) (cs := csX11_steer) dX11_steer csX11_steer_ok hd 51 0 _ h)
def csX12_steer : List (Nat × Nat × Nat × mj_PT) := [(214, 1, 3, tX12_in), (274, 0, 4, mj_rcv 12 tX12_put_), (283, 0, 3, mj_rcv 12 tX12_of), (289, 0, 3, mj_rcv 12 tX12_isHeld), (306, 0, 2, mj_rcv 12 tX12_isBoat), (358, 0, 1, mj_rcv 12 tX12_keep)]
theorem csX12_steer_ok : mj_Cs mX12_steer 3 csX12_steer := (mj_CsS (D' := 1) sdX12_in (Nat.le_of_ble_eq_true rfl) fX12_in sX12_in (by decide +kernel) l12_214 (mj_CsV (D' := 1) (ci := 12) (q := (RX12, TX12, 45)) sdX12_put_ (Nat.le_of_ble_eq_true rfl) fX12_put_ rfl rfl iX12_put_ vX12_put_ (by decide +kernel) l12_274 (mj_CsV (D' := 1) (ci := 12) (q := (RX12, TX12, 45)) sdX12_of (Nat.le_of_ble_eq_true rfl) fX12_of rfl rfl iX12_of vX12_of (by decide +kernel) l12_283 (mj_CsV (D' := 2) (ci := 12) (q := (RX12, TX12, 45)) sdX12_isHeld (Nat.le_of_ble_eq_true rfl) fX12_isHeld rfl rfl iX12_isHeld vX12_isHeld (by decide +kernel) l12_289 (mj_CsV (D' := 2) (ci := 12) (q := (RX12, TX12, 45)) sdX12_isBoat (Nat.le_of_ble_eq_true rfl) fX12_isBoat rfl rfl iX12_isBoat vX12_isBoat (by decide +kernel) l12_306 (mj_CsV (D' := 1) (ci := 12) (q := (RX12, TX12, 45)) sdX12_keep (Nat.le_of_ble_eq_true rfl) fX12_keep rfl rfl iX12_keep vX12_keep (by decide +kernel) l12_358 mj_Cs0))))))
def cutX12_steer : List (Nat × List Bool) := []
set_option maxRecDepth 100000 in
set_option maxHeartbeats 4000000 in
theorem inX12_steer {Ω : mj_Om} {l : Launch} {d : Nat} {Φ : Option Value → mj_M → Prop} (hd : 3 ≤ d) (b : Int32) (y : Int32) (I : Nat → Nat → Int32) (J : Nat → Nat → Int64)
    (h : ((if b < (0 : Int32) then (Φ (some (.int (-1 : Int32))) (mk I J)) else (if ((I 91 22) - (1 : Int32)) < b then (Φ (some (.int (-1 : Int32))) (mk I J)) else (if y = (-1 : Int32) then (mj_gd (mj_inB (((6 : Int32) * b) + (0 : Int32)) 49) (if ((I 106 ((((6 : Int32) * b) + (0 : Int32))).toNatClampNeg) + y) < (0 : Int32) then (Φ (some (.int (-1 : Int32))) (mk I J)) else (if ((I 104 0) - (1 : Int32)) < ((I 106 ((((6 : Int32) * b) + (0 : Int32))).toNatClampNeg) + y) then (Φ (some (.int (-1 : Int32))) (mk I J)) else (mj_gd (mj_inB (((6 : Int32) * b) + (1 : Int32)) 49) ((91 = 91 ∧ mj_isk (mk I J)) ∧ ((okM I) ∧ (if (b2i (held (nM I) (VM I) ((I 106 ((((6 : Int32) * b) + (0 : Int32))).toNatClampNeg) + y) (I 106 ((((6 : Int32) * b) + (1 : Int32))).toNatClampNeg))) = (0 : Int32) then ((91 = 91 ∧ mj_isk (mk I J)) ∧ (∃ a3207 : Nat, ((I 91 31 = nI a3207 ∧ a3207 ≤ 40) ∧ (∀ I3208 : Nat → Nat → Int32, (I3208 91 31 = nI (ctA a3207) ∧ (∀ k, k < 49 → I3208 110 (49 * (ctA a3207 - 1) + k) = I 106 k) ∧ (∀ k, k < 49 * (ctA a3207 - 1) → I3208 110 k = if a3207 = 40 then I 110 (k + 49) else I 110 k) ∧ fr (fun c k => c = 110 ∨ (c = 91 ∧ k = 31)) I I3208) → (mj_gd (mj_inB (((6 : Int32) * b) + (0 : Int32)) 49) (Φ (some (.int ((I 106 ((((6 : Int32) * b) + (0 : Int32))).toNatClampNeg) + y))) (mk (mj_ui I3208 106 ((((6 : Int32) * b) + (0 : Int32))).toNatClampNeg ((I 106 ((((6 : Int32) * b) + (0 : Int32))).toNatClampNeg) + y)) J))))))) else (Φ (some (.int (-1 : Int32))) (mk I J))))))))) else (if y = (1 : Int32) then (mj_gd (mj_inB (((6 : Int32) * b) + (0 : Int32)) 49) (if ((I 106 ((((6 : Int32) * b) + (0 : Int32))).toNatClampNeg) + y) < (0 : Int32) then (Φ (some (.int (-1 : Int32))) (mk I J)) else (if ((I 104 0) - (1 : Int32)) < ((I 106 ((((6 : Int32) * b) + (0 : Int32))).toNatClampNeg) + y) then (Φ (some (.int (-1 : Int32))) (mk I J)) else (mj_gd (mj_inB (((6 : Int32) * b) + (1 : Int32)) 49) ((91 = 91 ∧ mj_isk (mk I J)) ∧ ((okM I) ∧ (if (b2i (held (nM I) (VM I) ((I 106 ((((6 : Int32) * b) + (0 : Int32))).toNatClampNeg) + y) (I 106 ((((6 : Int32) * b) + (1 : Int32))).toNatClampNeg))) = (0 : Int32) then ((91 = 91 ∧ mj_isk (mk I J)) ∧ (∃ a3210 : Nat, ((I 91 31 = nI a3210 ∧ a3210 ≤ 40) ∧ (∀ I3211 : Nat → Nat → Int32, (I3211 91 31 = nI (ctA a3210) ∧ (∀ k, k < 49 → I3211 110 (49 * (ctA a3210 - 1) + k) = I 106 k) ∧ (∀ k, k < 49 * (ctA a3210 - 1) → I3211 110 k = if a3210 = 40 then I 110 (k + 49) else I 110 k) ∧ fr (fun c k => c = 110 ∨ (c = 91 ∧ k = 31)) I I3211) → (mj_gd (mj_inB (((6 : Int32) * b) + (0 : Int32)) 49) (Φ (some (.int ((I 106 ((((6 : Int32) * b) + (0 : Int32))).toNatClampNeg) + y))) (mk (mj_ui I3211 106 ((((6 : Int32) * b) + (0 : Int32))).toNatClampNeg ((I 106 ((((6 : Int32) * b) + (0 : Int32))).toNatClampNeg) + y)) J))))))) else (Φ (some (.int (-1 : Int32))) (mk I J))))))))) else (Φ (some (.int (-1 : Int32))) (mk I J)))))))) :
    mj_Met Ω l false mX12_steer d 0 0 [.ref 91, .int b, .int y] (mk I J) Φ := mj_entry (by decide) rfl (fun h => (by cases h)) (Nat.le_of_ble_eq_true rfl) (mj_blk (μ := mX12_steer) (P := pX12_steer) (cut := cutX12_steer) (cs := csX12_steer) dX12_steer csX12_steer_ok hd 50 0 _ h)
def csX11_undo : List (Nat × Nat × Nat × mj_PT) := [(247, 0, 2, mj_rcv 0 tX0_takeBack)]
theorem csX11_undo_ok : mj_Cs mX11_undo 3 csX11_undo := (mj_CsV (D' := 2) (ci := 0) (q := (RX0, TX0, 3)) sdX0_takeBack (Nat.le_of_ble_eq_true rfl) fX0_takeBack rfl rfl iX0_takeBack vX0_takeBack (by decide +kernel) l11_247 mj_Cs0)
def cutX11_undo : List (Nat × List Bool) := []
set_option maxRecDepth 100000 in
set_option maxHeartbeats 4000000 in
theorem inX11_undo {Ω : mj_Om} {l : Launch} {d : Nat} {Φ : Option Value → mj_M → Prop} (hd : 3 ≤ d) (I : Nat → Nat → Int32) (J : Nat → Nat → Int64)
    (h : ((if (I 80 2) = (0 : Int32) then (Φ (some (.int (-1 : Int32))) (mk I J)) else ((80 = 80 ∧ 39 = 39 ∧ mj_isk (mk I J)) ∧ (∃ nx3217 : Nat, (∃ a3218 : Nat, ((I 80 1 = nI nx3217 ∧ nx3217 < 40 ∧ I 80 2 = nI (a3218 + 1) ∧ a3218 < 40) ∧ (∀ I3219 : Nat → Nat → Int32, (∃ A : Nat → Nat → Int32, fr (fun c _ => c = 80) I A ∧ A 80 1 = nI (prA nx3217) ∧ A 80 2 = nI a3218 ∧ rdP A (49 * prA nx3217) 48 I3219) → (Φ (some (.int (I3219 80 2))) (mk I3219 J)))))))))) :
    mj_Met Ω l false mX11_undo d 0 0 [.ref 0] (mk I J) Φ := mj_entry (by decide) rfl (fun h => (by cases h)) (Nat.le_of_ble_eq_true rfl) (mj_blk (μ := mX11_undo) (P := pX11_undo) (cut := cutX11_undo) (cs := csX11_undo) dX11_undo csX11_undo_ok hd 16 0 _ h)
set_option maxHeartbeats 4000000 in
theorem two_rule {Ω : mj_Om} {l : Launch} {I : Nat → Nat → Int32} {J : Nat → Nat → Int64} (b : Int32) (r : Int32) (h : Rel I) : Two Ω l mX11_rule mX12_rule [.int b, .int r] I J := by
  obtain ⟨w1, w2, w3, w4, w5⟩ := id h.2.2.1
  have hn8 := w1.2
  obtain ⟨a, nx, a1, a2, a3, a4, a5⟩ := relA_g h
  refine inX11_rule (Nat.le_of_ble_eq_true rfl) b r I J ?_
  rw [w1.1]
  rcases bt hn8 b with ⟨k, hk, rfl⟩ | q
  case inr =>
    have no : TwoE Ω l mX12_rule [.int b, .int r] (some (.int (-1))) (mk I J) := by
      refine ⟨_, I, J, rfl, rfl, inX12_rule (Nat.le_of_ble_eq_true rfl) b r I J ?_⟩
      rw [w2.1, w3]
      by_cases q1 : b < 0
      · rw [if_pos q1]; exact ⟨I, J, by trivial, by trivial, h⟩
      · rw [if_neg q1, if_pos (by rw [bm hn8]; exact q.resolve_left q1)]; exact ⟨I, J, by trivial, by trivial, h⟩
    by_cases q1 : b < 0
    · rw [if_pos q1]; exact no
    · rw [if_neg q1, if_neg (q.resolve_left q1)]; exact no
  have hv : ∀ j, VM I j k = VF I 39 j k := fun j => by rw [(w5 (by omega)).2.1]
  have hkM : k < nM I := by rw [w3]; exact hk
  obtain ⟨x1, x2, x3, -⟩ := w5 (by omega)
  have e5 : I 106 (6 * k + 3) = I 45 k := by have := hv 5; rw [VM_5 hkM, VF_5 hk] at this; exact this
  rw [if_neg (nn0 (by omega)), if_pos (nlt hk (by omega))]
  have no : ((r < -1) ∨ ¬ (r < 4) ∨ (I 45 k = r)) → TwoE Ω l mX12_rule [.int (nI k), .int r] (some (.int (-1))) (mk I J) := fun q => by
    refine ⟨_, I, J, rfl, rfl, inX12_rule (Nat.le_of_ble_eq_true rfl) (nI k) r I J ?_⟩
    rw [w2.1, w3, if_neg (nn0 (by omega)), if_neg (by rw [bm hn8]; exact fun w => w (nlt hk (by omega)))]
    simp (disch := omega) only [jn_in, jn_cl, gd_dec, n6_0, n6_1, n6_2, n6_3, n6_4, n6_5]
    by_cases t0 : r < -1
    · rw [if_pos t0]; exact ⟨I, J, by trivial, by trivial, h⟩
    rw [if_neg t0]
    by_cases t1 : r < 4
    case neg => rw [if_pos (by rw [lt3]; exact t1)]; exact ⟨I, J, by trivial, by trivial, h⟩
    rw [if_neg (by rw [lt3]; exact fun w => w t1)]
    by_cases t2 : I 45 k = r
    · rw [if_pos (by rw [e5]; exact t2)]; exact ⟨I, J, by trivial, by trivial, h⟩
    rw [if_neg (by rw [e5]; exact t2)]
    exact absurd q (by
      intro q
      rcases q with q | q | q
      · exact t0 q
      · exact q t1
      · exact t2 q)
  simp (disch := omega) only [jn_in, jn_cl, gd_dec]
  by_cases t0 : r < -1
  · rw [if_pos t0]; exact no (Or.inl (t0))
  rw [if_neg t0]
  by_cases t1 : r < 4
  case neg => rw [if_neg t1]; exact no (Or.inr (Or.inl (t1)))
  rw [if_pos t1]
  by_cases t2 : I 45 k = r
  · rw [if_pos t2]; exact no (Or.inr (Or.inr (t2)))
  rw [if_neg t2]
  refine ⟨⟨by trivial, by trivial, mj_isk_mk _ _⟩, nx, a, ⟨a5, a2, a3, a1⟩, fun A hA => ?_⟩
  have aF := remC_fr hA
  have hi : ∀ c j, 91 ≤ c → (mj_ui A 45 k r) c j = I c j := fun c j hc => by rw [ui_c (by omega)]; exact aF c j (by (try dsimp only); omega)
  refine ⟨_, _, J, rfl, rfl, inX12_rule (Nat.le_of_ble_eq_true rfl) (nI k) r _ J ?_⟩
  rw [hi 91 22 (by omega), w2.1, w3, if_neg (nn0 (by omega)), if_neg (by rw [bm hn8]; exact fun w => w (nlt hk (by omega)))]
  simp (disch := omega) only [jn_in, jn_cl, gd_dec, n6_0, n6_1, n6_2, n6_3, n6_4, n6_5]
  rw [if_neg (by exact t0)]
  rw [if_neg (by rw [lt3]; exact fun w => w t1)]
  rw [hi 106 _ (by omega), if_neg (by rw [e5]; exact t2)]
  refine ⟨⟨by trivial, mj_isk_mk _ _⟩, a, ⟨by rw [hi 91 31 (by omega)]; exact a4, a1⟩, fun B hB => ?_⟩
  refine ⟨_, J, ?_, rfl, Rel_set (k := 5) (mo := 3) h a3 a5 a1 a2 hk (by unfold setK; omega) hA hB (FOk_v x3 (by omega))⟩
  rw [hB.1]
  obtain ⟨A0, -, -, -, c4⟩ := hA
  rw [c4]
set_option maxHeartbeats 4000000 in
theorem two_mark {Ω : mj_Om} {l : Launch} {I : Nat → Nat → Int32} {J : Nat → Nat → Int64} (b : Int32) (h : Rel I) : Two Ω l mX11_mark mX12_mark [.int b] I J := by
  obtain ⟨w1, w2, w3, w4, w5⟩ := id h.2.2.1
  have hn8 := w1.2
  obtain ⟨a, nx, a1, a2, a3, a4, a5⟩ := relA_g h
  refine inX11_mark (Nat.le_of_ble_eq_true rfl) b I J ?_
  rw [w1.1]
  rcases bt hn8 b with ⟨k, hk, rfl⟩ | q
  case inr =>
    have no : TwoE Ω l mX12_mark [.int b] (some (.int (-1))) (mk I J) := by
      refine ⟨_, I, J, rfl, rfl, inX12_mark (Nat.le_of_ble_eq_true rfl) b I J ?_⟩
      rw [w2.1, w3]
      by_cases q1 : b < 0
      · rw [if_pos q1]; exact ⟨I, J, by trivial, by trivial, h⟩
      · rw [if_neg q1, if_pos (by rw [bm hn8]; exact q.resolve_left q1)]; exact ⟨I, J, by trivial, by trivial, h⟩
    by_cases q1 : b < 0
    · rw [if_pos q1]; exact no
    · rw [if_neg q1, if_neg (q.resolve_left q1)]; exact no
  have hv : ∀ j, VM I j k = VF I 39 j k := fun j => by rw [(w5 (by omega)).2.1]
  have hkM : k < nM I := by rw [w3]; exact hk
  obtain ⟨x1, x2, x3, -⟩ := w5 (by omega)
  have e6 : I 106 (6 * k + 4) = I 46 k := by have := hv 6; rw [VM_6 hkM, VF_6 hk] at this; exact this
  rw [if_neg (nn0 (by omega)), if_pos (nlt hk (by omega))]
  have no : ((I 46 k = 1)) → TwoE Ω l mX12_mark [.int (nI k)] (some (.int (-1))) (mk I J) := fun q => by
    refine ⟨_, I, J, rfl, rfl, inX12_mark (Nat.le_of_ble_eq_true rfl) (nI k) I J ?_⟩
    rw [w2.1, w3, if_neg (nn0 (by omega)), if_neg (by rw [bm hn8]; exact fun w => w (nlt hk (by omega)))]
    simp (disch := omega) only [jn_in, jn_cl, gd_dec, n6_0, n6_1, n6_2, n6_3, n6_4, n6_5]
    by_cases t0 : I 46 k = 1
    · rw [if_pos (by rw [e6]; exact t0)]; exact ⟨I, J, by trivial, by trivial, h⟩
    rw [if_neg (by rw [e6]; exact t0)]
    exact absurd q (by
      intro q
      exact t0 q)
  simp (disch := omega) only [jn_in, jn_cl, gd_dec]
  by_cases t0 : I 46 k = 1
  · rw [if_pos t0]; exact no (t0)
  rw [if_neg t0]
  refine ⟨⟨by trivial, by trivial, mj_isk_mk _ _⟩, nx, a, ⟨a5, a2, a3, a1⟩, fun A hA => ?_⟩
  have aF := remC_fr hA
  have hi : ∀ c j, 91 ≤ c → (mj_ui A 46 k 1) c j = I c j := fun c j hc => by rw [ui_c (by omega)]; exact aF c j (by (try dsimp only); omega)
  refine ⟨_, _, J, rfl, rfl, inX12_mark (Nat.le_of_ble_eq_true rfl) (nI k) _ J ?_⟩
  rw [hi 91 22 (by omega), w2.1, w3, if_neg (nn0 (by omega)), if_neg (by rw [bm hn8]; exact fun w => w (nlt hk (by omega)))]
  simp (disch := omega) only [jn_in, jn_cl, gd_dec, n6_0, n6_1, n6_2, n6_3, n6_4, n6_5]
  rw [hi 106 _ (by omega), if_neg (by rw [e6]; exact t0)]
  refine ⟨⟨by trivial, mj_isk_mk _ _⟩, a, ⟨by rw [hi 91 31 (by omega)]; exact a4, a1⟩, fun B hB => ?_⟩
  refine ⟨_, J, ?_, rfl, Rel_set (k := 6) (mo := 4) h a3 a5 a1 a2 hk (by unfold setK; omega) hA hB (FOk_v x3 (by omega))⟩
  rw [hB.1]
  obtain ⟨A0, -, -, -, c4⟩ := hA
  rw [c4]
set_option maxHeartbeats 4000000 in
theorem two_speed {Ω : mj_Om} {l : Launch} {I : Nat → Nat → Int32} {J : Nat → Nat → Int64} (b : Int32) (v : Int32) (h : Rel I) : Two Ω l mX11_speed mX12_speed [.int b, .int v] I J := by
  obtain ⟨w1, w2, w3, w4, w5⟩ := id h.2.2.1
  have hn8 := w1.2
  obtain ⟨a, nx, a1, a2, a3, a4, a5⟩ := relA_g h
  refine inX11_speed (Nat.le_of_ble_eq_true rfl) b v I J ?_
  rw [w1.1]
  rcases bt hn8 b with ⟨k, hk, rfl⟩ | q
  case inr =>
    have no : TwoE Ω l mX12_speed [.int b, .int v] (some (.int (-1))) (mk I J) := by
      refine ⟨_, I, J, rfl, rfl, inX12_speed (Nat.le_of_ble_eq_true rfl) b v I J ?_⟩
      rw [w2.1, w3]
      by_cases q1 : b < 0
      · rw [if_pos q1]; exact ⟨I, J, by trivial, by trivial, h⟩
      · rw [if_neg q1, if_pos (by rw [bm hn8]; exact q.resolve_left q1)]; exact ⟨I, J, by trivial, by trivial, h⟩
    by_cases q1 : b < 0
    · rw [if_pos q1]; exact no
    · rw [if_neg q1, if_neg (q.resolve_left q1)]; exact no
  have hv : ∀ j, VM I j k = VF I 39 j k := fun j => by rw [(w5 (by omega)).2.1]
  have hkM : k < nM I := by rw [w3]; exact hk
  obtain ⟨x1, x2, x3, -⟩ := w5 (by omega)
  have e2 : I 106 (6 * k + 2) = I 42 k := by have := hv 2; rw [VM_2 hkM, VF_2 hk] at this; exact this
  have e3 : I 105 (6 * k + 3) = I 43 k := by have := hv 3; rw [VM_3 hkM, VF_3 hk] at this; exact this
  rw [if_neg (nn0 (by omega)), if_pos (nlt hk (by omega))]
  have no : ((v < 0) ∨ (I 43 k < v) ∨ (I 42 k = v)) → TwoE Ω l mX12_speed [.int (nI k), .int v] (some (.int (-1))) (mk I J) := fun q => by
    refine ⟨_, I, J, rfl, rfl, inX12_speed (Nat.le_of_ble_eq_true rfl) (nI k) v I J ?_⟩
    rw [w2.1, w3, if_neg (nn0 (by omega)), if_neg (by rw [bm hn8]; exact fun w => w (nlt hk (by omega)))]
    simp (disch := omega) only [jn_in, jn_cl, gd_dec, n6_0, n6_1, n6_2, n6_3, n6_4, n6_5]
    by_cases t0 : v < 0
    · rw [if_pos t0]; exact ⟨I, J, by trivial, by trivial, h⟩
    rw [if_neg t0]
    by_cases t1 : I 43 k < v
    · rw [if_pos (by rw [e3]; exact t1)]; exact ⟨I, J, by trivial, by trivial, h⟩
    rw [if_neg (by rw [e3]; exact t1)]
    by_cases t2 : I 42 k = v
    · rw [if_pos (by rw [e2]; exact t2)]; exact ⟨I, J, by trivial, by trivial, h⟩
    rw [if_neg (by rw [e2]; exact t2)]
    exact absurd q (by
      intro q
      rcases q with q | q | q
      · exact t0 q
      · exact t1 q
      · exact t2 q)
  simp (disch := omega) only [jn_in, jn_cl, gd_dec]
  by_cases t0 : v < 0
  · rw [if_pos t0]; exact no (Or.inl (t0))
  rw [if_neg t0]
  by_cases t1 : I 43 k < v
  · rw [if_pos t1]; exact no (Or.inr (Or.inl (t1)))
  rw [if_neg t1]
  by_cases t2 : I 42 k = v
  · rw [if_pos t2]; exact no (Or.inr (Or.inr (t2)))
  rw [if_neg t2]
  refine ⟨⟨by trivial, by trivial, mj_isk_mk _ _⟩, nx, a, ⟨a5, a2, a3, a1⟩, fun A hA => ?_⟩
  have aF := remC_fr hA
  have hi : ∀ c j, 91 ≤ c → (mj_ui A 42 k v) c j = I c j := fun c j hc => by rw [ui_c (by omega)]; exact aF c j (by (try dsimp only); omega)
  refine ⟨_, _, J, rfl, rfl, inX12_speed (Nat.le_of_ble_eq_true rfl) (nI k) v _ J ?_⟩
  rw [hi 91 22 (by omega), w2.1, w3, if_neg (nn0 (by omega)), if_neg (by rw [bm hn8]; exact fun w => w (nlt hk (by omega)))]
  simp (disch := omega) only [jn_in, jn_cl, gd_dec, n6_0, n6_1, n6_2, n6_3, n6_4, n6_5]
  rw [if_neg (by exact t0)]
  rw [hi 105 _ (by omega), if_neg (by rw [e3]; exact t1)]
  rw [hi 106 _ (by omega), if_neg (by rw [e2]; exact t2)]
  refine ⟨⟨by trivial, mj_isk_mk _ _⟩, a, ⟨by rw [hi 91 31 (by omega)]; exact a4, a1⟩, fun B hB => ?_⟩
  refine ⟨_, J, ?_, rfl, Rel_set (k := 2) (mo := 2) h a3 a5 a1 a2 hk (by unfold setK; omega) hA hB (FOk_2 x3 (fun _ => ⟨by rw [Int32.lt_iff_toInt_lt, i_0] at t0; omega, by rw [show VF I 39 3 k = I 43 k from VF_3 hk]; rw [Int32.lt_iff_toInt_lt] at t1; omega⟩))⟩
  rw [hB.1]
  obtain ⟨A0, -, -, -, c4⟩ := hA
  rw [c4]
set_option maxHeartbeats 4000000 in
theorem two_steer {Ω : mj_Om} {l : Launch} {I : Nat → Nat → Int32} {J : Nat → Nat → Int64} (b y : Int32) (h : Rel I) : Two Ω l mX11_steer mX12_steer [.int b, .int y] I J := by
  obtain ⟨w1, w2, w3, w4, w5⟩ := id h.2.2.1
  have hn8 := w1.2
  obtain ⟨a, nx, a1, a2, a3, a4, a5⟩ := relA_g h
  refine inX11_steer (Nat.le_of_ble_eq_true rfl) b y I J ?_
  rw [w1.1]
  rcases bt hn8 b with ⟨k, hk, rfl⟩ | q
  case inr =>
    have no : TwoE Ω l mX12_steer [.int b, .int y] (some (.int (-1))) (mk I J) := by
      refine ⟨_, I, J, rfl, rfl, inX12_steer (Nat.le_of_ble_eq_true rfl) b y I J ?_⟩
      rw [w2.1, w3]
      by_cases q1 : b < 0
      · rw [if_pos q1]; exact ⟨I, J, by trivial, by trivial, h⟩
      · rw [if_neg q1, if_pos (by rw [bm hn8]; exact q.resolve_left q1)]; exact ⟨I, J, by trivial, by trivial, h⟩
    by_cases q1 : b < 0
    · rw [if_pos q1]; exact no
    · rw [if_neg q1, if_neg (q.resolve_left q1)]; exact no
  have hv : ∀ j, VM I j k = VF I 39 j k := fun j => by rw [(w5 (by omega)).2.1]
  have hkM : k < nM I := by rw [w3]; exact hk
  obtain ⟨x1, x2, x3, -⟩ := w5 (by omega)
  have e0 : I 106 (6 * k) = I 40 k := by have := hv 0; rw [VM_0 hkM, VF_0 hk] at this; exact this
  have e1 : I 106 (6 * k + 1) = I 41 k := by have := hv 1; rw [VM_1 hkM, VF_1 hk] at this; exact this
  have f0 : I 104 0 = I 27 0 := by have := congrFun x1 0; unfold lv7 at this; rw [if_pos (by decide), if_pos (by decide)] at this; exact this
  have f1 : lv7 (I 27) 0 = I 27 0 := if_pos (by decide)
  rw [if_neg (nn0 (by omega)), if_pos (nlt hk (by omega))]
  simp (disch := omega) only [jn_in, jn_cl, gd_dec]
  have w20 := x3.1.1
  rw [f1] at w20
  have lt1 : ∀ z : Int32, (I 27 0 - 1 < z) = ¬ z < I 27 0 := fun z => by
    have e : (I 27 0 - 1).toInt = (I 27 0).toInt - 1 := i_sub1 (by omega)
    rw [Int32.lt_iff_toInt_lt, Int32.lt_iff_toInt_lt, e, Int.not_lt]
    exact propext ⟨fun w => by omega, fun w => by omega⟩
  -- the reference, from any memory that it may see
  have rf : ∀ (A : Nat → Nat → Int32) (v : Int32), (∀ c j, 91 ≤ c → A c j = I c j) → (y = -1 ∨ y = 1 → ¬ I 40 k + y < 0 → I 40 k + y < I 27 0 → ¬ held (nF I 39) (VF I 39) (I 40 k + y) (I 41 k) → v = I 40 k + y ∧ ∀ B, keepM A a B → Rel (mj_ui B 106 (6 * k) (I 40 k + y))) → (¬ ((y = -1 ∨ y = 1) ∧ ¬ I 40 k + y < 0 ∧ I 40 k + y < I 27 0 ∧ ¬ held (nF I 39) (VF I 39) (I 40 k + y) (I 41 k)) → v = -1 ∧ Rel A) → mj_Met Ω l false mX12_steer 60 0 0 [.ref 91, .int (nI k), .int y] (mk A J) (fun r' M' => ∃ (I2 : Nat → Nat → Int32) (J2 : Nat → Nat → Int64), r' = some (.int v) ∧ M' = mk I2 J2 ∧ Rel I2) := by
    intro A v hA yes no
    refine inX12_steer (Nat.le_of_ble_eq_true rfl) (nI k) y A J ?_
    obtain ⟨nMe, VMe, oMe⟩ := MM_fr (I := I) (I1 := A) (hA 91 22 (by omega)) (fun j => hA 105 j (by omega)) (fun j => hA 106 j (by omega))
    rw [hA 91 22 (by omega), w2.1, w3, if_neg (nn0 (by omega)), if_neg (by rw [bm hn8]; exact fun w => w (nlt hk (by omega)))]
    simp (disch := omega) only [jn_in, jn_cl, gd_dec, n6_0, n6_1]
    rw [hA 106 _ (by omega), hA 106 _ (by omega), hA 104 0 (by omega), e0, e1, f0]
    have body : (y = -1 ∨ y = 1) → (if I 40 k + y < 0 then (∃ (I2 : Nat → Nat → Int32) (J2 : Nat → Nat → Int64), some (Value.int (-1)) = some (.int v) ∧ mk A J = mk I2 J2 ∧ Rel I2) else if I 27 0 - 1 < I 40 k + y then (∃ (I2 : Nat → Nat → Int32) (J2 : Nat → Nat → Int64), some (Value.int (-1)) = some (.int v) ∧ mk A J = mk I2 J2 ∧ Rel I2) else ((True ∧ mj_isk (mk A J)) ∧ (okM A) ∧ (if (b2i (held (nM A) (VM A) (I 40 k + y) (I 41 k))) = (0 : Int32) then ((True ∧ mj_isk (mk A J)) ∧ ∃ a' : Nat, (A 91 31 = nI a' ∧ a' ≤ 40) ∧ ∀ B : Nat → Nat → Int32, (keepM A a' B) → (∃ (I2 : Nat → Nat → Int32) (J2 : Nat → Nat → Int64), some (Value.int (I 40 k + y)) = some (.int v) ∧ mk (mj_ui B 106 (6 * k) (I 40 k + y)) J = mk I2 J2 ∧ Rel I2)) else (∃ (I2 : Nat → Nat → Int32) (J2 : Nat → Nat → Int64), some (Value.int (-1)) = some (.int v) ∧ mk A J = mk I2 J2 ∧ Rel I2)))) := by
      intro hy
      have bad : ¬ ((y = -1 ∨ y = 1) ∧ ¬ I 40 k + y < 0 ∧ I 40 k + y < I 27 0 ∧ ¬ held (nF I 39) (VF I 39) (I 40 k + y) (I 41 k)) → (∃ (I2 : Nat → Nat → Int32) (J2 : Nat → Nat → Int64), some (Value.int (-1)) = some (.int v) ∧ mk A J = mk I2 J2 ∧ Rel I2) := fun w => ⟨A, J, by rw [(no w).1], rfl, (no w).2⟩
      by_cases q1 : I 40 k + y < 0
      · rw [if_pos q1]; exact bad (fun w => w.2.1 q1)
      rw [if_neg q1]
      by_cases q2 : I 40 k + y < I 27 0
      case neg => rw [if_pos (by rw [lt1]; exact q2)]; exact bad (fun w => q2 w.2.2.1)
      rw [if_neg (by rw [lt1]; exact fun w => w q2)]
      refine ⟨⟨by trivial, mj_isk_mk _ _⟩, oMe w2, ?_⟩
      rw [nMe, VMe, w3, x2]
      by_cases q3 : held (nF I 39) (VF I 39) (I 40 k + y) (I 41 k)
      · rw [if_neg (by rw [b2i_e0]; exact fun w => w q3)]; exact bad (fun w => w.2.2.2 q3)
      rw [if_pos (by rw [b2i_e0]; exact q3)]
      obtain ⟨y1, y2⟩ := yes hy q1 q2 q3
      exact ⟨⟨by trivial, mj_isk_mk _ _⟩, a, ⟨by rw [hA 91 31 (by omega)]; exact a4, a1⟩, fun B hB => ⟨_, J, by rw [y1], rfl, y2 B hB⟩⟩
    by_cases q0 : y = -1
    · rw [if_pos q0]; exact body (Or.inl q0)
    rw [if_neg q0]
    by_cases q1 : y = 1
    · rw [if_pos q1]; exact body (Or.inr q1)
    rw [if_neg q1]
    have := no (fun w => w.1.elim q0 q1)
    exact ⟨A, J, by rw [this.1], rfl, this.2⟩
  have nope : ¬ ((y = -1 ∨ y = 1) ∧ ¬ I 40 k + y < 0 ∧ I 40 k + y < I 27 0 ∧ ¬ held (nF I 39) (VF I 39) (I 40 k + y) (I 41 k)) → TwoE Ω l mX12_steer [.int (nI k), .int y] (some (.int (-1))) (mk I J) := fun w => ⟨_, I, J, rfl, rfl, rf I (-1) (fun _ _ _ => rfl) (fun h1 h2 h3 h4 => absurd ⟨h1, h2, h3, h4⟩ w) (fun _ => ⟨rfl, h⟩)⟩
  have cls : (y = -1 ∨ y = 1) → (if I 40 k + y < 0 then TwoE Ω l mX12_steer [.int (nI k), .int y] (some (.int (-1))) (mk I J) else if I 40 k + y < I 27 0 then ((isF3 39 ∧ mj_isk (mk I J)) ∧ okF I 39 ∧ (if (b2i (held (nF I 39) (VF I 39) (I 40 k + y) (I 41 k))) = (0 : Int32) then ((True ∧ True ∧ mj_isk (mk I J)) ∧ ∃ nx' : Nat, ∃ a' : Nat, (I 80 1 = nI nx' ∧ nx' < 40 ∧ I 80 2 = nI a' ∧ a' ≤ 40) ∧ ∀ A : Nat → Nat → Int32, (remC I nx' a' A) → TwoE Ω l mX12_steer [.int (nI k), .int y] (some (.int (I 40 k + y))) (mk (mj_ui A 40 k (I 40 k + y)) J)) else TwoE Ω l mX12_steer [.int (nI k), .int y] (some (.int (-1))) (mk I J))) else TwoE Ω l mX12_steer [.int (nI k), .int y] (some (.int (-1))) (mk I J)) := by
    intro hy
    by_cases q1 : I 40 k + y < 0
    · rw [if_pos q1]; exact nope (fun w => w.2.1 q1)
    rw [if_neg q1]
    by_cases q2 : I 40 k + y < I 27 0
    case neg => rw [if_neg q2]; exact nope (fun w => q2 w.2.2.1)
    rw [if_pos q2]
    refine ⟨⟨by unfold isF3; omega, mj_isk_mk _ _⟩, w1, ?_⟩
    by_cases q3 : held (nF I 39) (VF I 39) (I 40 k + y) (I 41 k)
    · rw [if_neg (by rw [b2i_e0]; exact fun w => w q3)]; exact nope (fun w => w.2.2.2 q3)
    rw [if_pos (by rw [b2i_e0]; exact q3)]
    refine ⟨⟨by trivial, by trivial, mj_isk_mk _ _⟩, nx, a, ⟨a5, a2, a3, a1⟩, fun A hA => ?_⟩
    have aF := remC_fr hA
    have hi : ∀ c j, 91 ≤ c → (mj_ui A 40 k (I 40 k + y)) c j = I c j := fun c j hc => by rw [ui_c (by omega)]; exact aF c j (by (try dsimp only); omega)
    refine ⟨_, _, J, rfl, rfl, rf _ _ hi (fun _ _ _ _ => ⟨rfl, fun B hB => ?_⟩) (fun w => absurd ⟨hy, q1, q2, q3⟩ w)⟩
    exact Rel_set (k := 0) (mo := 0) h a3 a5 a1 a2 hk (by unfold setK; omega) hA hB (FOk_0 x3 ⟨by rw [Int32.lt_iff_toInt_lt, i_0] at q1; omega, by rw [f1]; rw [Int32.lt_iff_toInt_lt] at q2; exact q2⟩)
  by_cases q0 : y = -1
  · rw [if_pos q0]; exact cls (Or.inl q0)
  rw [if_neg q0]
  by_cases q1 : y = 1
  · rw [if_pos q1]; exact cls (Or.inr q1)
  rw [if_neg q1]
  exact nope (fun w => w.1.elim q0 q1)
