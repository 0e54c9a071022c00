def csX12_in : List (Nat × Nat × Nat × mj_PT) := []
theorem csX12_in_ok : mj_Cs mX12_in 1 csX12_in := mj_Cs0
def tX12_in : mj_PT := mj_ptw mX12_in pX12_in csX12_in 11
theorem sdX12_in : mj_Sd mX12_in 1 tX12_in := mj_ptw_sd dX12_in ⟨by decide, rfl, fun h => (by cases h)⟩ csX12_in_ok
def csX12_of : List (Nat × Nat × Nat × mj_PT) := []
theorem csX12_of_ok : mj_Cs mX12_of 1 csX12_of := mj_Cs0
def tX12_of : mj_PT := mj_ptw mX12_of pX12_of csX12_of 10
theorem sdX12_of : mj_Sd mX12_of 1 tX12_of := mj_ptw_sd dX12_of ⟨by decide, rfl, fun h => (by cases h)⟩ csX12_of_ok
def csX12_put_ : List (Nat × Nat × Nat × mj_PT) := []
theorem csX12_put__ok : mj_Cs mX12_put_ 1 csX12_put_ := mj_Cs0
def tX12_put_ : mj_PT := mj_ptw mX12_put_ pX12_put_ csX12_put_ 11
theorem sdX12_put_ : mj_Sd mX12_put_ 1 tX12_put_ := mj_ptw_sd dX12_put_ ⟨by decide, rfl, fun h => (by cases h)⟩ csX12_put__ok
def csX12_isBoat : List (Nat × Nat × Nat × mj_PT) := [(214, 1, 3, tX12_in)]
theorem csX12_isBoat_ok : mj_Cs mX12_isBoat 2 csX12_isBoat := (mj_CsS (D' := 1) sdX12_in (Nat.le_of_ble_eq_true rfl) fX12_in sX12_in (by decide +kernel) l12_214 mj_Cs0)
def tX12_isBoat : mj_PT := mj_ptw mX12_isBoat pX12_isBoat csX12_isBoat 9
theorem sdX12_isBoat : mj_Sd mX12_isBoat 2 tX12_isBoat := mj_ptw_sd dX12_isBoat ⟨by decide, rfl, fun h => (by cases h)⟩ csX12_isBoat_ok
def csX12_most : List (Nat × Nat × Nat × mj_PT) := []
theorem csX12_most_ok : mj_Cs mX12_most 1 csX12_most := mj_Cs0
def tX12_most : mj_PT := mj_ptw mX12_most pX12_most csX12_most 10
theorem sdX12_most : mj_Sd mX12_most 1 tX12_most := mj_ptw_sd dX12_most ⟨by decide, rfl, fun h => (by cases h)⟩ csX12_most_ok
def csX12_leftSeconds : List (Nat × Nat × Nat × mj_PT) := []
theorem csX12_leftSeconds_ok : mj_Cs mX12_leftSeconds 1 csX12_leftSeconds := mj_Cs0
def tX12_leftSeconds : mj_PT := mj_ptw mX12_leftSeconds pX12_leftSeconds csX12_leftSeconds 11
theorem sdX12_leftSeconds : mj_Sd mX12_leftSeconds 1 tX12_leftSeconds := mj_ptw_sd dX12_leftSeconds ⟨by decide, rfl, fun h => (by cases h)⟩ csX12_leftSeconds_ok
def csX12_believed : List (Nat × Nat × Nat × mj_PT) := [(283, 0, 3, mj_rcv 12 tX12_of)]
theorem csX12_believed_ok : mj_Cs mX12_believed 2 csX12_believed := (mj_CsV (D' := 1) (ci := 12) (q := (RX12, TX12, 45)) sdX12_of (Nat.le_of_ble_eq_true rfl) fX12_of rfl rfl iX12_of vX12_of (by decide +kernel) l12_283 mj_Cs0)
def tX12_believed : mj_PT := mj_ptw mX12_believed pX12_believed csX12_believed 25
theorem sdX12_believed : mj_Sd mX12_believed 2 tX12_believed := mj_ptw_sd dX12_believed ⟨by decide, rfl, fun h => (by cases h)⟩ csX12_believed_ok
def csX12_isHeld : List (Nat × Nat × Nat × mj_PT) := [(283, 0, 3, mj_rcv 12 tX12_of)]
theorem csX12_isHeld_ok : mj_Cs mX12_isHeld 2 csX12_isHeld := (mj_CsV (D' := 1) (ci := 12) (q := (RX12, TX12, 45)) sdX12_of (Nat.le_of_ble_eq_true rfl) fX12_of rfl rfl iX12_of vX12_of (by decide +kernel) l12_283 mj_Cs0)
def cutX12_isHeld : List (Nat × List Bool) := [(2, [true, true, true, true])]
set_option maxRecDepth 100000 in
set_option maxHeartbeats 4000000 in
theorem bX12_isHeld_0 {Ω : mj_Om} {l : Launch} {al : Bool} {d : Nat} {Φ : Option Value → mj_M → Prop} (hd : 2 ≤ d) (b : Int32) (c : Int32) (I : Nat → Nat → Int32) (J : Nat → Nat → Int64)
    (h : (mj_G Ω l al mX12_isHeld d 0 0 Φ 0 0 2 ([some (.ref 91), some (.int c), some (.int b), some (.int (0 : Int32))], [], (mk I J)))) :
    mj_G Ω l al mX12_isHeld d 0 0 Φ 0 0 0 ([some (.ref 91), some (.int c), some (.int b), none], [], mk I J) := mj_blk (μ := mX12_isHeld) (P := pX12_isHeld) (cut := cutX12_isHeld) (cs := csX12_isHeld) dX12_isHeld csX12_isHeld_ok hd 25 0 _ h
set_option maxRecDepth 100000 in
set_option maxHeartbeats 4000000 in
theorem bX12_isHeld_2 {Ω : mj_Om} {l : Launch} {al : Bool} {d : Nat} {Φ : Option Value → mj_M → Prop} (hd : 2 ≤ d) (x1 : Int32) (x2 : Int32) (x3 : Int32) (I : Nat → Nat → Int32) (J : Nat → Nat → Int64)
    (h : ((if x3 < (I 91 22) then (mj_gd (mj_inB (((6 : Int32) * x3) + (0 : Int32)) 49) (if (I 106 ((((6 : Int32) * x3) + (0 : Int32))).toNatClampNeg) = x1 then (mj_gd (mj_inB (((6 : Int32) * x3) + (1 : Int32)) 49) (if (I 106 ((((6 : Int32) * x3) + (1 : Int32))).toNatClampNeg) = x2 then Φ (some (.int (1 : Int32))) (mk I J) else mj_G Ω l al mX12_isHeld d 0 0 Φ 0 0 2 ([some (.ref 91), some (.int x1), some (.int x2), some (.int (x3 + (1 : Int32)))], [], (mk I J)))) else mj_G Ω l al mX12_isHeld d 0 0 Φ 0 0 2 ([some (.ref 91), some (.int x1), some (.int x2), some (.int (x3 + (1 : Int32)))], [], (mk I J)))) else Φ (some (.int (0 : Int32))) (mk I J)))) :
    mj_G Ω l al mX12_isHeld d 0 0 Φ 0 0 2 ([some (.ref 91), some (.int x1), some (.int x2), some (.int x3)], [], mk I J) := mj_blk (μ := mX12_isHeld) (P := pX12_isHeld) (cut := cutX12_isHeld) (cs := csX12_isHeld) dX12_isHeld csX12_isHeld_ok hd 25 2 _ h
def csX3_isHeld : List (Nat × Nat × Nat × mj_PT) := []
theorem csX3_isHeld_ok : mj_Cs mX3_isHeld 1 csX3_isHeld := mj_Cs0
def cutX3_isHeld : List (Nat × List Bool) := [(2, [true, true, true, true])]
set_option maxRecDepth 100000 in
set_option maxHeartbeats 4000000 in
theorem bX3_isHeld_0 {Ω : mj_Om} {l : Launch} {al : Bool} {d : Nat} {Φ : Option Value → mj_M → Prop} (hd : 1 ≤ d) (f : Nat) (hf : f = 15 ∨ f = 30 ∨ f = 39 ∨ f = 48 ∨ f = 57 ∨ f = 66) (b : Int32) (x : Int32) (I : Nat → Nat → Int32) (J : Nat → Nat → Int64)
    (h : (mj_G Ω l al mX3_isHeld d 0 0 Φ 0 0 2 ([some (.ref f), some (.int x), some (.int b), some (.int (0 : Int32))], [], (mk I J)))) :
    mj_G Ω l al mX3_isHeld d 0 0 Φ 0 0 0 ([some (.ref f), some (.int x), some (.int b), none], [], mk I J) := by
  rcases hf with rfl | rfl | rfl | rfl | rfl | rfl <;> exact mj_blk (μ := mX3_isHeld) (P := pX3_isHeld) (cut := cutX3_isHeld) (cs := csX3_isHeld) dX3_isHeld csX3_isHeld_ok hd 25 0 _ h
set_option maxRecDepth 100000 in
set_option maxHeartbeats 4000000 in
theorem bX3_isHeld_2 {Ω : mj_Om} {l : Launch} {al : Bool} {d : Nat} {Φ : Option Value → mj_M → Prop} (hd : 1 ≤ d) (f : Nat) (hf : f = 15 ∨ f = 30 ∨ f = 39 ∨ f = 48 ∨ f = 57 ∨ f = 66) (x1 : Int32) (x2 : Int32) (x3 : Int32) (I : Nat → Nat → Int32) (J : Nat → Nat → Int64)
    (h : ((if x3 < (I f 8) then (mj_gd (mj_inB x3 8) (if (I (f + 1) (x3).toNatClampNeg) = x1 then (mj_gd (mj_inB x3 8) (if (I (f + 2) (x3).toNatClampNeg) = x2 then Φ (some (.int (1 : Int32))) (mk I J) else mj_G Ω l al mX3_isHeld d 0 0 Φ 0 0 2 ([some (.ref f), some (.int x1), some (.int x2), some (.int (x3 + (1 : Int32)))], [], (mk I J)))) else mj_G Ω l al mX3_isHeld d 0 0 Φ 0 0 2 ([some (.ref f), some (.int x1), some (.int x2), some (.int (x3 + (1 : Int32)))], [], (mk I J)))) else Φ (some (.int (0 : Int32))) (mk I J)))) :
    mj_G Ω l al mX3_isHeld d 0 0 Φ 0 0 2 ([some (.ref f), some (.int x1), some (.int x2), some (.int x3)], [], mk I J) := by
  rcases hf with rfl | rfl | rfl | rfl | rfl | rfl <;> exact mj_blk (μ := mX3_isHeld) (P := pX3_isHeld) (cut := cutX3_isHeld) (cs := csX3_isHeld) dX3_isHeld csX3_isHeld_ok hd 25 2 _ h
