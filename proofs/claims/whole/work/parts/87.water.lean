/-! ===== the class's WaterReader: clauses, faults (by program, wip/whole/p87.py) ===== -/
def cfB (V : Nat → Int32) (k : Nat) : Int32 := if k < 5 then V k else if k = 5 then (if V 5 = 4 then -1 else V 5) else 0
def bFr (c k : Nat) : Prop := (c = 1 ∧ k = 2) ∨ c = 12 ∨ (c = 15 ∧ k = 8) ∨ (16 ≤ c ∧ c ≤ 23)
def wFr (c k : Nat) : Prop := (c = 1 ∧ k = 2) ∨ (c = 11 ∧ k = 2) ∨ c = 12 ∨ c = 14 ∨ (c = 15 ∧ (k = 8 ∨ k = 9)) ∨ (16 ≤ c ∧ c ≤ 23)
def bI (b : Bool) : Int32 := if b = true then 1 else 0
def wrB (r : IR) (t : Nat) (τ : Nat → Int32) (n : Nat) (I I1 : Nat → Nat → Int32) : Prop := (∀ e, r = .error e → I1 1 2 = nI e) ∧ ∀ q, r = .ok q → (∃ a, a ≤ t ∧ I1 1 2 = nI a ∧ skp t τ a = q.1) ∧ I1 15 8 = nI (n + 1) ∧ (∀ k, k < 8 → I1 (16 + k) n = cfB q.2 k) ∧ ∀ i, i < n → ∀ k, k < 8 → I1 (16 + k) i = I (16 + k) i
def csX10_readBoat : List (Nat × Nat × Nat × mj_PT) := [(87, 0, 5, mj_rcv 10 tX10_readItemsB), (111, 0, 2, mj_rcv 3 tX3_join)]
theorem csX10_readBoat_ok : mj_Cs mX10_readBoat 7 csX10_readBoat := (mj_CsV (D' := 6) (ci := 10) (q := (RX10, TX10, 5)) sdX10_readItemsB (Nat.le_of_ble_eq_true rfl) fX10_readItems rfl rfl iX10_readItems vX10_readItems (by decide +kernel) l10_87 (mj_CsV (D' := 1) (ci := 3) (q := (RX3, TX3, 10)) sdX3_join (Nat.le_of_ble_eq_true rfl) fX3_join rfl rfl iX3_join vX3_join (by decide +kernel) l10_111 mj_Cs0))
def cutX10_readBoat : List (Nat × List Bool) := []
set_option maxRecDepth 100000 in
set_option maxHeartbeats 4000000 in
theorem inX10_readBoat {Ω : mj_Om} {l : Launch} {d : Nat} {Φ : Option Value → mj_M → Prop} (hd : 7 ≤ d) (I : Nat → Nat → Int32) (J : Nat → Nat → Int64)
    (h : (((11 = 11 ∧ 1011 = 1011 ∧ 1003 = 1003 ∧ 1004 = 1004 ∧ 1005 = 1005 ∧ mj_isk (mk I J)) ∧ (∃ t2626 : Nat, (∃ τ2627 : Nat → Int32, (∃ p2628 : Nat, ((TC I t2626 τ2627 ∧ I 1 2 = nI p2628 ∧ p2628 ≤ t2626) ∧ (∀ I2629 : Nat → Nat → Int32, (wrI 6 (itBP t2626 τ2627 p2628) t2626 τ2627 I2629 ∧ fr iFr I I2629) → (if (okB (itBP t2626 τ2627 p2628)) = (0 : Int32) then (Φ (some (.int (0 : Int32))) (mk I2629 J)) else (if (I2629 15 8) < (8 : Int32) then (mj_gd (mj_inB (I2629 15 8) 8) (mj_gd (mj_inB (I2629 15 8) 8) (mj_gd (mj_inB (I2629 15 8) 8) (mj_gd (mj_inB (I2629 15 8) 8) (mj_gd (mj_inB (I2629 15 8) 8) (if (I2629 12 5) = (4 : Int32) then (mj_gd (mj_inB (I2629 15 8) 8) (mj_gd (mj_inB (I2629 15 8) 8) (mj_gd (mj_inB (I2629 15 8) 8) (Φ (some (.int (1 : Int32))) (mk (mj_ui (mj_ui (mj_ui (mj_ui (mj_ui (mj_ui (mj_ui (mj_ui (mj_ui I2629 16 ((I2629 15 8)).toNatClampNeg (I2629 12 0)) 17 ((I2629 15 8)).toNatClampNeg (I2629 12 1)) 18 ((I2629 15 8)).toNatClampNeg (I2629 12 2)) 19 ((I2629 15 8)).toNatClampNeg (I2629 12 3)) 20 ((I2629 15 8)).toNatClampNeg (I2629 12 4)) 21 ((I2629 15 8)).toNatClampNeg (-1 : Int32)) 22 ((I2629 15 8)).toNatClampNeg (0 : Int32)) 23 ((I2629 15 8)).toNatClampNeg (0 : Int32)) 15 8 ((I2629 15 8) + (1 : Int32))) J))))) else (mj_gd (mj_inB (I2629 15 8) 8) (mj_gd (mj_inB (I2629 15 8) 8) (mj_gd (mj_inB (I2629 15 8) 8) (Φ (some (.int (1 : Int32))) (mk (mj_ui (mj_ui (mj_ui (mj_ui (mj_ui (mj_ui (mj_ui (mj_ui (mj_ui I2629 16 ((I2629 15 8)).toNatClampNeg (I2629 12 0)) 17 ((I2629 15 8)).toNatClampNeg (I2629 12 1)) 18 ((I2629 15 8)).toNatClampNeg (I2629 12 2)) 19 ((I2629 15 8)).toNatClampNeg (I2629 12 3)) 20 ((I2629 15 8)).toNatClampNeg (I2629 12 4)) 21 ((I2629 15 8)).toNatClampNeg (I2629 12 5)) 22 ((I2629 15 8)).toNatClampNeg (0 : Int32)) 23 ((I2629 15 8)).toNatClampNeg (0 : Int32)) 15 8 ((I2629 15 8) + (1 : Int32))) J))))))))))) else (Φ (some (.int (1 : Int32))) (mk I2629 J)))))))))))) :
    mj_Met Ω l false mX10_readBoat d 0 0 [.ref 11] (mk I J) Φ := mj_entry (by decide) rfl (fun h => (by cases h)) (Nat.le_of_ble_eq_true rfl) (mj_blk (μ := mX10_readBoat) (P := pX10_readBoat) (cut := cutX10_readBoat) (cs := csX10_readBoat) dX10_readBoat csX10_readBoat_ok hd 17 0 _ h)
def tX10_readBoat : mj_PT := fun as M Φ => match as with
  | [.ref this] => ((this = 11 ∧ mj_isk M) ∧ (∃ t : Nat, (∃ τ : Nat → Int32, (∃ p : Nat, (∃ n : Nat, ((TC M.2.2.1 t τ ∧ M.2.2.1 1 2 = nI p ∧ p ≤ t ∧ M.2.2.1 15 8 = nI n ∧ n < 8) ∧ (∀ I1 : Nat → Nat → Int32, (wrB (itBP t τ p) t τ n M.2.2.1 I1 ∧ fr bFr M.2.2.1 I1) → Φ (some (.int (okB (itBP t τ p)))) (M.1, M.2.1, I1, M.2.2.2))))))))
  | _ => False
set_option maxHeartbeats 8000000 in
theorem mnX10_readBoat {Ω : mj_Om} {l : Launch} {d : Nat} {Φ : Option Value → mj_M → Prop} (hd : 7 ≤ d) (t : Nat) (τ : Nat → Int32) (p : Nat) (n : Nat) (I : Nat → Nat → Int32) (J : Nat → Nat → Int64) (hp : TC I t τ ∧ I 1 2 = nI p ∧ p ≤ t ∧ I 15 8 = nI n ∧ n < 8) (h : ∀ I1 : Nat → Nat → Int32, (wrB (itBP t τ p) t τ n I I1 ∧ fr bFr I I1) → Φ (some (.int (okB (itBP t τ p)))) (mk I1 J)) : mj_Met Ω l false mX10_readBoat d 0 0 [.ref 11] (mk I J) Φ := by
  refine inX10_readBoat hd I J ?_
  obtain ⟨hT, h1, hpt, h15, hn⟩ := hp
  refine ⟨⟨by trivial, by trivial, by trivial, by trivial, by trivial, mj_isk_mk _ _⟩, t, τ, p, ⟨hT, h1, hpt⟩, fun A hA => ?_⟩
  obtain ⟨⟨a1, a2⟩, a3⟩ := hA
  have aF : fr bFr I A := fr_mo a3 (fun c k w => by unfold iFr at w; unfold bFr; omega)
  have a15 : A 15 8 = nI n := by rw [a3 15 8 (by unfold iFr; omega)]; exact h15
  cases hr : itBP t τ p with
  | error e =>
    rw [if_pos (show okB (Except.error e : IR) = 0 from rfl)]
    have := h A ⟨⟨fun e' h' => a1 e' h', fun q h' => by rw [hr] at h'; cases h'⟩, aF⟩
    rw [hr] at this
    exact this
  | ok y =>
    rw [if_neg (show ¬ okB (Except.ok y : IR) = 0 by show ¬ (1 : Int32) = 0; decide)]
    obtain ⟨⟨a, b1, b2, b3⟩, b4⟩ := a2 y hr
    have key : ∀ x : Int32, x = cfB y.2 5 → Φ (some (.int 1)) (mk (mj_ui (mj_ui (mj_ui (mj_ui (mj_ui (mj_ui (mj_ui (mj_ui (mj_ui A 16 n (A 12 0)) 17 n (A 12 1)) 18 n (A 12 2)) 19 n (A 12 3)) 20 n (A 12 4)) 21 n x) 22 n 0) 23 n 0) 15 8 (nI (n + 1))) J) := by
      intro x hx
      have hf : fr bFr I (mj_ui (mj_ui (mj_ui (mj_ui (mj_ui (mj_ui (mj_ui (mj_ui (mj_ui A 16 n (A 12 0)) 17 n (A 12 1)) 18 n (A 12 2)) 19 n (A 12 3)) 20 n (A 12 4)) 21 n x) 22 n 0) 23 n 0) 15 8 (nI (n + 1))) := fr_ui (fr_ui (fr_ui (fr_ui (fr_ui (fr_ui (fr_ui (fr_ui (fr_ui aF (by unfold bFr; omega)) (by unfold bFr; omega)) (by unfold bFr; omega)) (by unfold bFr; omega)) (by unfold bFr; omega)) (by unfold bFr; omega)) (by unfold bFr; omega)) (by unfold bFr; omega)) (by unfold bFr; omega)
      have := h _ ⟨⟨fun e' h' => by rw [hr] at h'; (cases h'), fun q h' => by
        rw [hr] at h'
        cases h'
        refine ⟨⟨a, b1, ?_, b3⟩, ui_s, fun k hk => ?_, fun i hi k hk => ?_⟩
        · rw [ui_c (by decide), ui_c (by decide), ui_c (by decide), ui_c (by decide), ui_c (by decide), ui_c (by decide), ui_c (by decide), ui_c (by decide), ui_c (by decide)]; exact b2
        · rcases (by omega : k = 0 ∨ k = 1 ∨ k = 2 ∨ k = 3 ∨ k = 4 ∨ k = 5 ∨ k = 6 ∨ k = 7) with rfl | rfl | rfl | rfl | rfl | rfl | rfl | rfl
          · show _ = cfB y.2 0
            rw [ui_c (by decide), ui_c (by decide), ui_c (by decide), ui_c (by decide), ui_c (by decide), ui_c (by decide), ui_c (by decide), ui_c (by decide), ui_s]; exact b4 0 (by decide)
          · show _ = cfB y.2 1
            rw [ui_c (by decide), ui_c (by decide), ui_c (by decide), ui_c (by decide), ui_c (by decide), ui_c (by decide), ui_c (by decide), ui_s]; exact b4 1 (by decide)
          · show _ = cfB y.2 2
            rw [ui_c (by decide), ui_c (by decide), ui_c (by decide), ui_c (by decide), ui_c (by decide), ui_c (by decide), ui_s]; exact b4 2 (by decide)
          · show _ = cfB y.2 3
            rw [ui_c (by decide), ui_c (by decide), ui_c (by decide), ui_c (by decide), ui_c (by decide), ui_s]; exact b4 3 (by decide)
          · show _ = cfB y.2 4
            rw [ui_c (by decide), ui_c (by decide), ui_c (by decide), ui_c (by decide), ui_s]; exact b4 4 (by decide)
          · show _ = cfB y.2 5
            rw [ui_c (by decide), ui_c (by decide), ui_c (by decide), ui_s]; exact hx
          · show _ = cfB y.2 6
            rw [ui_c (by decide), ui_c (by decide), ui_s]; exact rfl
          · show _ = cfB y.2 7
            rw [ui_c (by decide), ui_s]; exact rfl
        · rcases (by omega : k = 0 ∨ k = 1 ∨ k = 2 ∨ k = 3 ∨ k = 4 ∨ k = 5 ∨ k = 6 ∨ k = 7) with rfl | rfl | rfl | rfl | rfl | rfl | rfl | rfl
          · rw [ui_c (by decide), ui_c (by decide), ui_c (by decide), ui_c (by decide), ui_c (by decide), ui_c (by decide), ui_c (by decide), ui_c (by decide), ui_k (by omega)]; exact a3 _ _ (by unfold iFr; omega)
          · rw [ui_c (by decide), ui_c (by decide), ui_c (by decide), ui_c (by decide), ui_c (by decide), ui_c (by decide), ui_c (by decide), ui_k (by omega), ui_c (by decide)]; exact a3 _ _ (by unfold iFr; omega)
          · rw [ui_c (by decide), ui_c (by decide), ui_c (by decide), ui_c (by decide), ui_c (by decide), ui_c (by decide), ui_k (by omega), ui_c (by decide), ui_c (by decide)]; exact a3 _ _ (by unfold iFr; omega)
          · rw [ui_c (by decide), ui_c (by decide), ui_c (by decide), ui_c (by decide), ui_c (by decide), ui_k (by omega), ui_c (by decide), ui_c (by decide), ui_c (by decide)]; exact a3 _ _ (by unfold iFr; omega)
          · rw [ui_c (by decide), ui_c (by decide), ui_c (by decide), ui_c (by decide), ui_k (by omega), ui_c (by decide), ui_c (by decide), ui_c (by decide), ui_c (by decide)]; exact a3 _ _ (by unfold iFr; omega)
          · rw [ui_c (by decide), ui_c (by decide), ui_c (by decide), ui_k (by omega), ui_c (by decide), ui_c (by decide), ui_c (by decide), ui_c (by decide), ui_c (by decide)]; exact a3 _ _ (by unfold iFr; omega)
          · rw [ui_c (by decide), ui_c (by decide), ui_k (by omega), ui_c (by decide), ui_c (by decide), ui_c (by decide), ui_c (by decide), ui_c (by decide), ui_c (by decide)]; exact a3 _ _ (by unfold iFr; omega)
          · rw [ui_c (by decide), ui_k (by omega), ui_c (by decide), ui_c (by decide), ui_c (by decide), ui_c (by decide), ui_c (by decide), ui_c (by decide), ui_c (by decide)]; exact a3 _ _ (by unfold iFr; omega)⟩, hf⟩
      rw [hr] at this
      exact this
  
    rw [a15, if_pos (show nI n < 8 from nlt (a := n) (b := 8) hn (by omega))]
    simp (disch := omega) only [jn_in, jn_cl, gd_dec]
    rw [jn_succ]
    by_cases z : A 12 5 = 4
    · rw [if_pos z]
      exact key (-1) (by rw [b4 5 (by decide)] at z; show _ = if y.2 5 = 4 then -1 else y.2 5; rw [if_pos z])
    · rw [if_neg z]
      exact key (A 12 5) (by rw [b4 5 (by decide)] at z ⊢; show _ = if y.2 5 = 4 then -1 else y.2 5; rw [if_neg z])
theorem sdX10_readBoat : mj_Sd mX10_readBoat 7 tX10_readBoat := by
  intro Ω l d hd as M Φ h
  unfold tX10_readBoat at h
  split at h
  · rename_i z_this
    obtain ⟨⟨rfl, hM⟩, t, τ, p, n, hp, h⟩ := h
    rw [mj_isk_of hM]
    exact mnX10_readBoat hd t τ p n _ _ hp (by
      rw [mj_isk_of hM] at h
      exact h)
  · exact h.elim
def wrW (r : Except Nat (Nat × Bool × (Nat → Int32))) (t : Nat) (τ : Nat → Int32) (b : Bool) (n : Nat) (I I1 : Nat → Nat → Int32) : Prop := fr wFr I I1 ∧ I1 15 9 = I 15 9 ∧ (∀ e, r = .error e → I1 1 2 = nI e) ∧ ∀ q, r = .ok q → (∃ a, a ≤ t ∧ I1 1 2 = nI a ∧ skp t τ a = q.1) ∧ (q.2.1 = true → I1 11 2 = 1 ∧ (∀ j, j < 7 → I1 14 j = q.2.2 j) ∧ I1 15 8 = nI n ∧ ∀ i, i < n → ∀ k, k < 8 → I1 (16 + k) i = I (16 + k) i) ∧ (q.2.1 = false → I1 11 2 = I 11 2 ∧ (∀ j, I1 14 j = I 14 j) ∧ I1 15 8 = nI (n + 1) ∧ (∀ k, k < 8 → I1 (16 + k) n = cfB q.2.2 k) ∧ ∀ i, i < n → ∀ k, k < 8 → I1 (16 + k) i = I (16 + k) i)
def csX10_readClause : List (Nat × Nat × Nat × mj_PT) := [(53, 0, 2, mj_rcv 8 tX8_take), (57, 0, 1, mj_rcv 8 tX8_nextSign), (70, 0, 1, mj_rcv 10 tX10_readLine), (73, 0, 1, mj_rcv 10 tX10_readBoat)]
theorem csX10_readClause_ok : mj_Cs mX10_readClause 8 csX10_readClause := (mj_CsV (D' := 2) (ci := 8) (q := (RX8, TX8, 3)) sdX8_take (Nat.le_of_ble_eq_true rfl) fX8_take rfl rfl iX8_take vX8_take (by decide +kernel) l10_53 (mj_CsV (D' := 1) (ci := 8) (q := (RX8, TX8, 3)) sdX8_nextSign (Nat.le_of_ble_eq_true rfl) fX8_nextSign rfl rfl iX8_nextSign vX8_nextSign (by decide +kernel) l10_57 (mj_CsV (D' := 7) (ci := 10) (q := (RX10, TX10, 5)) sdX10_readLine (Nat.le_of_ble_eq_true rfl) fX10_readLine rfl rfl iX10_readLine vX10_readLine (by decide +kernel) l10_70 (mj_CsV (D' := 7) (ci := 10) (q := (RX10, TX10, 5)) sdX10_readBoat (Nat.le_of_ble_eq_true rfl) fX10_readBoat rfl rfl iX10_readBoat vX10_readBoat (by decide +kernel) l10_73 mj_Cs0))))
def cutX10_readClause : List (Nat × List Bool) := [(50, [true, true])]
set_option maxRecDepth 100000 in
set_option maxHeartbeats 4000000 in
theorem inX10_readClause {Ω : mj_Om} {l : Launch} {d : Nat} {Φ : Option Value → mj_M → Prop} (hd : 8 ≤ d) (I : Nat → Nat → Int32) (J : Nat → Nat → Int64)
    (h : (((1 = 1 ∧ mj_isk (mk I J)) ∧ (∃ t2657 : Nat, (∃ τ2658 : Nat → Int32, (∃ p2659 : Nat, ((TC I t2657 τ2658 ∧ I 1 2 = nI p2659 ∧ p2659 ≤ t2657) ∧ (∀ I2660 : Nat → Nat → Int32, (I2660 1 2 = nI (skp t2657 τ2658 p2659) ∧ fr rFr I I2660) → (if (nsg t2657 τ2658 p2659) = (108 : Int32) then (if (I2660 11 2) = (0 : Int32) then ((1 = 1 ∧ mj_isk (mk (mj_ui I2660 11 2 (1 : Int32)) J)) ∧ (∃ t2662 : Nat, (∃ τ2663 : Nat → Int32, (∃ p2664 : Nat, ((TC (mj_ui I2660 11 2 (1 : Int32)) t2662 τ2663 ∧ (mj_ui I2660 11 2 (1 : Int32)) 1 2 = nI p2664 ∧ p2664 ≤ t2662) ∧ (∀ I2665 : Nat → Nat → Int32, (I2665 1 2 = nI (tkp t2662 τ2663 p2664 (nsg t2657 τ2658 p2659)) ∧ fr rFr (mj_ui I2660 11 2 (1 : Int32)) I2665) → (if (b2i (nsg t2662 τ2663 p2664 = (nsg t2657 τ2658 p2659))) = (0 : Int32) then (Φ (some (.int (0 : Int32))) (mk I2665 J)) else ((11 = 11 ∧ mj_isk (mk I2665 J)) ∧ (∃ t2667 : Nat, (∃ τ2668 : Nat → Int32, (∃ p2669 : Nat, ((TC I2665 t2667 τ2668 ∧ I2665 1 2 = nI p2669 ∧ p2669 ≤ t2667) ∧ (∀ I2670 : Nat → Nat → Int32, (wrL (itLP t2667 τ2668 p2669) t2667 τ2668 I2670 ∧ fr lFr2 I2665 I2670) → (if (okB (itLP t2667 τ2668 p2669)) = (0 : Int32) then (Φ (some (.int (0 : Int32))) (mk I2670 J)) else (Φ (some (.int (1 : Int32))) (mk I2670 J)))))))))))))))) else (mj_G Ω l false mX10_readClause d 0 0 Φ 0 0 50 ([some (.ref 11), some (.int (nsg t2657 τ2658 p2659))], [], (mk I2660 J)))) else (mj_G Ω l false mX10_readClause d 0 0 Φ 0 0 50 ([some (.ref 11), some (.int (nsg t2657 τ2658 p2659))], [], (mk I2660 J)))))))))))) :
    mj_Met Ω l false mX10_readClause d 0 0 [.ref 11] (mk I J) Φ := mj_entry (by decide) rfl (fun h => (by cases h)) (Nat.le_of_ble_eq_true rfl) (mj_blk (μ := mX10_readClause) (P := pX10_readClause) (cut := cutX10_readClause) (cs := csX10_readClause) dX10_readClause csX10_readClause_ok hd 46 0 _ h)
set_option maxRecDepth 100000 in
set_option maxHeartbeats 4000000 in
theorem bX10_readClause_50 {Ω : mj_Om} {l : Launch} {d : Nat} {Φ : Option Value → mj_M → Prop} (hd : 8 ≤ d) (x1 : Int32) (I : Nat → Nat → Int32) (J : Nat → Nat → Int64)
    (h : ((if x1 = (98 : Int32) then (if (I 15 8) < (8 : Int32) then ((1 = 1 ∧ mj_isk (mk I J)) ∧ (∃ t2672 : Nat, (∃ τ2673 : Nat → Int32, (∃ p2674 : Nat, ((TC I t2672 τ2673 ∧ I 1 2 = nI p2674 ∧ p2674 ≤ t2672) ∧ (∀ I2675 : Nat → Nat → Int32, (I2675 1 2 = nI (tkp t2672 τ2673 p2674 x1) ∧ fr rFr I I2675) → (if (b2i (nsg t2672 τ2673 p2674 = x1)) = (0 : Int32) then (Φ (some (.int (0 : Int32))) (mk I2675 J)) else ((11 = 11 ∧ mj_isk (mk I2675 J)) ∧ (∃ t2677 : Nat, (∃ τ2678 : Nat → Int32, (∃ p2679 : Nat, (∃ n2680 : Nat, ((TC I2675 t2677 τ2678 ∧ I2675 1 2 = nI p2679 ∧ p2679 ≤ t2677 ∧ I2675 15 8 = nI n2680 ∧ n2680 < 8) ∧ (∀ I2681 : Nat → Nat → Int32, (wrB (itBP t2677 τ2678 p2679) t2677 τ2678 n2680 I2675 I2681 ∧ fr bFr I2675 I2681) → (if (okB (itBP t2677 τ2678 p2679)) = (0 : Int32) then (Φ (some (.int (0 : Int32))) (mk I2681 J)) else (Φ (some (.int (1 : Int32))) (mk I2681 J))))))))))))))))) else (Φ (some (.int (0 : Int32))) (mk I J))) else (Φ (some (.int (0 : Int32))) (mk I J))))) :
    mj_G Ω l false mX10_readClause d 0 0 Φ 0 0 50 ([some (.ref 11), some (.int x1)], [], mk I J) := mj_blk (μ := mX10_readClause) (P := pX10_readClause) (cut := cutX10_readClause) (cs := csX10_readClause) dX10_readClause csX10_readClause_ok hd 46 50 _ h
def tX10_readClause : mj_PT := fun as M Φ => match as with
  | [.ref this] => ((this = 11 ∧ mj_isk M) ∧ (∃ t : Nat, (∃ τ : Nat → Int32, (∃ p : Nat, (∃ b : Bool, (∃ n : Nat, ((TC M.2.2.1 t τ ∧ M.2.2.1 1 2 = nI p ∧ p ≤ t ∧ M.2.2.1 11 2 = bI b ∧ M.2.2.1 15 8 = nI n ∧ n ≤ 8) ∧ (∀ I1 : Nat → Nat → Int32, (wrW (wcP t τ p b n) t τ b n M.2.2.1 I1) → Φ (some (.int (okB (wcP t τ p b n)))) (M.1, M.2.1, I1, M.2.2.2)))))))))
  | _ => False
set_option maxHeartbeats 8000000 in
theorem mnX10_readClause {Ω : mj_Om} {l : Launch} {d : Nat} {Φ : Option Value → mj_M → Prop} (hd : 8 ≤ d) (t : Nat) (τ : Nat → Int32) (p : Nat) (b : Bool) (n : Nat) (I : Nat → Nat → Int32) (J : Nat → Nat → Int64) (hp : TC I t τ ∧ I 1 2 = nI p ∧ p ≤ t ∧ I 11 2 = bI b ∧ I 15 8 = nI n ∧ n ≤ 8) (h : ∀ I1 : Nat → Nat → Int32, (wrW (wcP t τ p b n) t τ b n I I1) → Φ (some (.int (okB (wcP t τ p b n)))) (mk I1 J)) : mj_Met Ω l false mX10_readClause d 0 0 [.ref 11] (mk I J) Φ := by
  refine inX10_readClause hd I J ?_
  obtain ⟨hT, h1, hpt, h11, h15, hn⟩ := hp
  have ht := hT.1.1
  have k1 := skp_le (τ := τ) hpt
  have k2 := skp_ge (t := t) (τ := τ) (p := p)
  have TA : ∀ A, fr wFr I A → TC A t τ := fun A hA => TC_fr hT (hA 1 1 (by unfold wFr; omega)) (fun k => hA 2 k (by unfold wFr; omega))
  have hE : ∀ (e : Nat) (A : Nat → Nat → Int32), wcP t τ p b n = .error e → fr wFr I A → A 15 9 = I 15 9 → A 1 2 = nI e → Φ (some (.int 0)) (mk A J) := fun e A he hf h9 ha => by
    have := h A ⟨hf, h9, fun e' h' => by rw [he] at h'; cases h'; exact ha, fun q h' => by rw [he] at h'; cases h'⟩
    rw [he] at this
    exact this
  refine ⟨⟨by trivial, mj_isk_mk _ _⟩, t, τ, p, ⟨hT, h1, hpt⟩, fun A hA => ?_⟩
  obtain ⟨a1, a2⟩ := hA
  have aF : fr wFr I A := fr_mo a2 (fun c k w => Or.inl w)
  have a11 : A 11 2 = bI b := by rw [a2 11 2 (by unfold rFr; omega)]; exact h11
  have a15 : A 15 8 = nI n := by rw [a2 15 8 (by unfold rFr; omega)]; exact h15
  have a9 : A 15 9 = I 15 9 := a2 15 9 (by unfold rFr; omega)
  have g50 : ¬ (nsg t τ p = 108 ∧ b = false) → mj_G Ω l false mX10_readClause d 0 0 Φ 0 0 50 ([some (.ref 11), some (.int (nsg t τ p))], [], mk A J) := by
    intro q
    refine bX10_readClause_50 hd (nsg t τ p) A J ?_
    rw [a15]
    have eN : ¬ (nsg t τ p = 98 ∧ n < 8) → wcP t τ p b n = .error (skp t τ p) := fun q2 => by unfold wcP; rw [if_neg q, if_neg q2]
    by_cases s1 : nsg t τ p = 98
    case neg => rw [if_neg s1]; exact hE _ A (eN (fun w => s1 w.1)) aF a9 a1
    rw [if_pos s1]
    by_cases s2 : n < 8
    case neg => rw [if_neg (show ¬ nI n < 8 from nnl (a := n) (b := 8) (by omega) (by omega))]; exact hE _ A (eN (fun w => s2 w.2)) aF a9 a1
    rw [if_pos (show nI n < 8 from nlt (a := n) (b := 8) s2 (by omega))]
    have h3 : skp t τ p + 1 ≤ t := nsg_p s1 (by decide)
    refine ⟨⟨by trivial, mj_isk_mk _ _⟩, t, τ, skp t τ p, ⟨TA A aF, a1, k1⟩, fun B hB => ?_⟩
    rw [if_neg (by rw [b2i_e0, nsg_skp]; exact fun z => z rfl)]
    rw [tkp_skp] at hB
    have bF : fr wFr I B := fr_tr aF (fr_mo hB.2 (fun c k w => Or.inl w))
    have b15 : B 15 8 = nI n := by rw [hB.2 15 8 (by unfold rFr; omega)]; exact a15
    refine ⟨⟨by trivial, mj_isk_mk _ _⟩, t, τ, skp t τ p + 1, n, ⟨TA B bF, hB.1, h3, b15, s2⟩, fun C hC => ?_⟩
    obtain ⟨⟨c1, c2⟩, c3⟩ := hC
    have cF : fr wFr I C := fr_tr bF (fr_mo c3 (fun c k w => by unfold bFr at w; unfold wFr; omega))
    have rr : ∀ c k, 14 ≤ c → B c k = I c k := fun c k hc => by rw [hB.2 c k (by unfold rFr; omega), a2 c k (by unfold rFr; omega)]
    have c9 : C 15 9 = I 15 9 := by rw [c3 15 9 (by unfold bFr; omega)]; exact rr 15 9 (by decide)
    have eW : wcP t τ p b n = (match itBP t τ (skp t τ p + 1) with
      | .error e => .error e
      | .ok r => .ok (r.1, false, r.2)) := by unfold wcP; rw [if_neg q, if_pos ⟨s1, s2⟩]; all_goals (cases itBP t τ (skp t τ p + 1) <;> rfl)
    cases hr : itBP t τ (skp t τ p + 1) with
    | error e =>
      rw [hr] at eW
      rw [if_pos (show okB (Except.error e : IR) = 0 from rfl)]
      exact hE e C eW cF c9 (c1 e hr)
    | ok y =>
      rw [hr] at eW
      rw [if_neg (show ¬ okB (Except.ok y : IR) = 0 by show ¬ (1 : Int32) = 0; decide)]
      obtain ⟨d1, d2, d3, d4⟩ := c2 y hr
      have := h C ⟨cF, c9, fun e' h' => by rw [eW] at h'; (cases h'), fun q h' => by
        rw [eW] at h'
        cases h'
        exact ⟨d1, fun w => (by cases w), fun _ => ⟨by rw [c3 11 2 (by unfold bFr; omega), hB.2 11 2 (by unfold rFr; omega), a2 11 2 (by unfold rFr; omega)], fun j => by rw [c3 14 j (by unfold bFr; omega)]; exact rr 14 j (by decide), d2, d3, fun i hi k hk => by rw [d4 i hi k hk]; exact rr _ _ (by omega)⟩⟩⟩
      rw [eW] at this
      exact this
  by_cases s1 : nsg t τ p = 108
  case neg => rw [if_neg s1]; exact g50 (fun w => s1 w.1)
  rw [if_pos s1, a11]
  cases b with
  | true => rw [if_neg (by decide)]; exact g50 (fun w => by cases w.2)
  | false =>
    rw [if_pos (by decide)]
    have h3 : skp t τ p + 1 ≤ t := nsg_p s1 (by decide)
    have bF : fr wFr I (mj_ui A 11 2 1) := fr_ui aF (by unfold wFr; omega)
    refine ⟨⟨by trivial, mj_isk_mk _ _⟩, t, τ, skp t τ p, ⟨TA _ bF, by rw [ui_c (by decide)]; exact a1, k1⟩, fun B hB => ?_⟩
    rw [if_neg (by rw [b2i_e0, nsg_skp]; exact fun z => z rfl)]
    rw [tkp_skp] at hB
    have bF' : fr wFr I B := fr_tr bF (fr_mo hB.2 (fun c k w => Or.inl w))
    refine ⟨⟨by trivial, mj_isk_mk _ _⟩, t, τ, skp t τ p + 1, ⟨TA B bF', hB.1, h3⟩, fun C hC => ?_⟩
    obtain ⟨⟨c1, c2⟩, c3⟩ := hC
    have cF : fr wFr I C := fr_tr bF' (fr_mo c3 (fun c k w => by unfold lFr2 at w; unfold wFr; omega))
    have rr : ∀ c k, 15 ≤ c → C c k = I c k := fun c k hc => by rw [c3 c k (by unfold lFr2; omega), hB.2 c k (by unfold rFr; omega), ui_c (by omega), a2 c k (by unfold rFr; omega)]
    have eW : wcP t τ p false n = (match itLP t τ (skp t τ p + 1) with
      | .error e => .error e
      | .ok r => .ok (r.1, true, r.2)) := by unfold wcP; rw [if_pos ⟨s1, rfl⟩]; all_goals (cases itLP t τ (skp t τ p + 1) <;> rfl)
    cases hr : itLP t τ (skp t τ p + 1) with
    | error e =>
      rw [hr] at eW
      rw [if_pos (show okB (Except.error e : IR) = 0 from rfl)]
      exact hE e C eW cF (rr 15 9 (by decide)) (c1 e hr)
    | ok y =>
      rw [hr] at eW
      rw [if_neg (show ¬ okB (Except.ok y : IR) = 0 by show ¬ (1 : Int32) = 0; decide)]
      obtain ⟨d1, d2⟩ := c2 y hr
      have := h C ⟨cF, rr 15 9 (by decide), fun e' h' => by rw [eW] at h'; (cases h'), fun q h' => by
        rw [eW] at h'
        cases h'
        exact ⟨d1, fun _ => ⟨by rw [c3 11 2 (by unfold lFr2; omega), hB.2 11 2 (by unfold rFr; omega), ui_s], d2, by rw [rr 15 8 (by decide)]; exact h15, fun i hi k hk => rr _ _ (by omega)⟩, fun w => by cases w⟩⟩
      rw [eW] at this
      exact this
theorem sdX10_readClause : mj_Sd mX10_readClause 8 tX10_readClause := by
  intro Ω l d hd as M Φ h
  unfold tX10_readClause at h
  split at h
  · rename_i z_this
    obtain ⟨⟨rfl, hM⟩, t, τ, p, b, n, hp, h⟩ := h
    rw [mj_isk_of hM]
    exact mnX10_readClause hd t τ p b n _ _ hp (by
      rw [mj_isk_of hM] at h
      exact h)
  · exact h.elim
def fitP (I : Nat → Nat → Int32) (i : Nat) : Prop := ¬ I 19 i < I 18 i ∧ ¬ I 16 i < 0 ∧ I 16 i < I 14 0 ∧ ∀ o, o < i → ¬ (I 16 o = I 16 i ∧ I 17 o = I 17 i)
def csX10_fits : List (Nat × Nat × Nat × mj_PT) := [(136, 0, 2, mj_rcv 1 tX1_hasColumn)]
theorem csX10_fits_ok : mj_Cs mX10_fits 2 csX10_fits := (mj_CsV (D' := 1) (ci := 1) (q := (RX1, TX1, 1)) sdX1_hasColumn (Nat.le_of_ble_eq_true rfl) fX1_hasColumn rfl rfl iX1_hasColumn vX1_hasColumn (by decide +kernel) l10_136 mj_Cs0)
def cutX10_fits : List (Nat × List Bool) := [(2, [true, true, false]), (57, [true, true, true])]
def pX10_fits_0 : List (Nat × Instr × Nat) := [(0, .iconst 0, 1), (1, .istore_n 1, 1), (2, .iload_n 1, 1)]
set_option maxRecDepth 100000 in
theorem dX10_fits_0 : mj_pd cX10_fits pX10_fits_0 := mj_pdB (by decide +kernel)
set_option maxRecDepth 100000 in
set_option maxHeartbeats 4000000 in
theorem inX10_fits {Ω : mj_Om} {l : Launch} {d : Nat} {Φ : Option Value → mj_M → Prop} (hd : 2 ≤ d) (I : Nat → Nat → Int32) (J : Nat → Nat → Int64)
    (h : ((mj_G Ω l false mX10_fits d 0 0 Φ 0 0 2 ([some (.ref 11), some (.int (0 : Int32)), none], [], (mk I J))))) :
    mj_Met Ω l false mX10_fits d 0 0 [.ref 11] (mk I J) Φ := mj_entry (by decide) rfl (fun h => (by cases h)) (Nat.le_of_ble_eq_true rfl) (mj_blk (μ := mX10_fits) (P := pX10_fits_0) (cut := cutX10_fits) (cs := csX10_fits) dX10_fits_0 csX10_fits_ok hd 4 0 _ h)
def pX10_fits_2 : List (Nat × Instr × Nat) := [(2, .iload_n 1, 1), (3, .aload_n 0, 1), (4, .getfield 25, 3), (7, .getfield 61, 3), (10, .if_icmp .ge 108, 3), (13, .aload_n 0, 1), (14, .getfield 25, 3), (17, .getfield 127, 3), (20, .iload_n 1, 1), (21, .iaload, 1), (22, .aload_n 0, 1), (23, .getfield 25, 3), (26, .getfield 130, 3), (29, .iload_n 1, 1), (30, .iaload, 1), (31, .if_icmp .gt 22, 3), (34, .aload_n 0, 1), (35, .getfield 18, 3), (38, .aload_n 0, 1), (39, .getfield 25, 3), (42, .getfield 133, 3), (45, .iload_n 1, 1), (46, .iaload, 1), (47, .invokevirtual 136, 3), (50, .ifCond .ne 5, 3), (53, .iconst 0, 1), (54, .ireturn, 1), (55, .iconst 0, 1), (56, .istore_n 2, 1), (57, .iload_n 2, 1), (118, .iconst 1, 1), (119, .ireturn, 1)]
set_option maxRecDepth 100000 in
theorem dX10_fits_2 : mj_pd cX10_fits pX10_fits_2 := mj_pdB (by decide +kernel)
set_option maxRecDepth 100000 in
set_option maxHeartbeats 4000000 in
theorem bX10_fits_2 {Ω : mj_Om} {l : Launch} {d : Nat} {Φ : Option Value → mj_M → Prop} (hd : 2 ≤ d) (x1 : Int32) (I : Nat → Nat → Int32) (J : Nat → Nat → Int64)
    (h : ((if x1 < (I 15 8) then (mj_gd (mj_inB x1 8) (mj_gd (mj_inB x1 8) (if (I 19 (x1).toNatClampNeg) < (I 18 (x1).toNatClampNeg) then (Φ (some (.int (0 : Int32))) (mk I J)) else (mj_gd (mj_inB x1 8) (if (I 16 (x1).toNatClampNeg) < (0 : Int32) then (Φ (some (.int (0 : Int32))) (mk I J)) else (if (I 16 (x1).toNatClampNeg) < (I 14 0) then (mj_G Ω l false mX10_fits d 0 0 Φ 0 0 57 ([some (.ref 11), some (.int x1), some (.int (0 : Int32))], [], (mk I J))) else (Φ (some (.int (0 : Int32))) (mk I J)))))))) else (Φ (some (.int (1 : Int32))) (mk I J))))) :
    mj_G Ω l false mX10_fits d 0 0 Φ 0 0 2 ([some (.ref 11), some (.int x1), none], [], mk I J) := mj_blk (μ := mX10_fits) (P := pX10_fits_2) (cut := cutX10_fits) (cs := csX10_fits) dX10_fits_2 csX10_fits_ok hd 33 2 _ h
def pX10_fits_57 : List (Nat × Instr × Nat) := [(2, .iload_n 1, 1), (57, .iload_n 2, 1), (58, .iload_n 1, 1), (59, .if_icmp .ge 53, 3), (62, .aload_n 0, 1), (63, .getfield 25, 3), (66, .getfield 133, 3), (69, .iload_n 2, 1), (70, .iaload, 1), (71, .aload_n 0, 1), (72, .getfield 25, 3), (75, .getfield 133, 3), (78, .iload_n 1, 1), (79, .iaload, 1), (80, .if_icmp .ne 26, 3), (83, .aload_n 0, 1), (84, .getfield 25, 3), (87, .getfield 139, 3), (90, .iload_n 2, 1), (91, .iaload, 1), (92, .aload_n 0, 1), (93, .getfield 25, 3), (96, .getfield 139, 3), (99, .iload_n 1, 1), (100, .iaload, 1), (101, .if_icmp .ne 5, 3), (104, .iconst 0, 1), (105, .ireturn, 1), (106, .iinc 2 1, 3), (109, .goto (-52), 3), (112, .iinc 1 1, 3), (115, .goto (-113), 3)]
set_option maxRecDepth 100000 in
theorem dX10_fits_57 : mj_pd cX10_fits pX10_fits_57 := mj_pdB (by decide +kernel)
set_option maxRecDepth 100000 in
set_option maxHeartbeats 4000000 in
theorem bX10_fits_57 {Ω : mj_Om} {l : Launch} {d : Nat} {Φ : Option Value → mj_M → Prop} (hd : 2 ≤ d) (x1 : Int32) (x2 : Int32) (I : Nat → Nat → Int32) (J : Nat → Nat → Int64)
    (h : ((if x2 < x1 then (mj_gd (mj_inB x2 8) (mj_gd (mj_inB x1 8) (if (I 16 (x2).toNatClampNeg) = (I 16 (x1).toNatClampNeg) then (mj_gd (mj_inB x2 8) (mj_gd (mj_inB x1 8) (if (I 17 (x2).toNatClampNeg) = (I 17 (x1).toNatClampNeg) then (Φ (some (.int (0 : Int32))) (mk I J)) else (mj_G Ω l false mX10_fits d 0 0 Φ 0 0 57 ([some (.ref 11), some (.int x1), some (.int (x2 + (1 : Int32)))], [], (mk I J)))))) else (mj_G Ω l false mX10_fits d 0 0 Φ 0 0 57 ([some (.ref 11), some (.int x1), some (.int (x2 + (1 : Int32)))], [], (mk I J)))))) else (mj_G Ω l false mX10_fits d 0 0 Φ 0 0 2 ([some (.ref 11), some (.int (x1 + (1 : Int32))), none], [], (mk I J)))))) :
    mj_G Ω l false mX10_fits d 0 0 Φ 0 0 57 ([some (.ref 11), some (.int x1), some (.int x2)], [], mk I J) := mj_blk (μ := mX10_fits) (P := pX10_fits_57) (cut := cutX10_fits) (cs := csX10_fits) dX10_fits_57 csX10_fits_ok hd 33 57 _ h
def tX10_fits : mj_PT := fun as M Φ => match as with
  | [.ref this] => ((this = 11 ∧ mj_isk M) ∧ (∃ n : Nat, ((M.2.2.1 15 8 = nI n ∧ n ≤ 8) ∧ Φ (some (.int (b2i (∀ i, i < n → fitP M.2.2.1 i)))) M)))
  | _ => False
set_option maxHeartbeats 4000000 in
theorem mnX10_fits {Ω : mj_Om} {l : Launch} {d : Nat} {Φ : Option Value → mj_M → Prop} (hd : 2 ≤ d) (n : Nat) (I : Nat → Nat → Int32) (J : Nat → Nat → Int64) (hp : I 15 8 = nI n ∧ n ≤ 8) (h : Φ (some (.int (b2i (∀ i, i < n → fitP I i)))) (mk I J)) : mj_Met Ω l false mX10_fits d 0 0 [.ref 11] (mk I J) Φ := by
  refine inX10_fits hd I J ?_
  obtain ⟨h15, hn⟩ := hp
  have h1 : (∀ i, i < n → fitP I i) → Φ (some (.int 1)) (mk I J) := fun q => by rw [b2i_1 q] at h; exact h
  have h0 : ¬ (∀ i, i < n → fitP I i) → Φ (some (.int 0)) (mk I J) := fun q => by rw [b2i_0 q] at h; exact h
  refine lp_inv (σ := Unit) (n := n) (G := fun i _ => mj_G Ω l false mX10_fits d 0 0 Φ 0 0 2 ([some (.ref 11), some (.int (nI i)), none], [], mk I J)) (fun i _ => ∀ j, j < i → fitP I j) (fun i _ hi hI hk => ?_) (fun _ hI => ?_) n 0 () (by omega) (fun j hj => absurd hj (Nat.not_lt_zero j))
  · refine bX10_fits_2 hd (nI i) I J ?_
    rw [h15, if_pos (nlt (a := i) (b := n) hi (by omega))]
    simp (disch := omega) only [jn_in, jn_cl, gd_dec]
    by_cases q1 : I 19 i < I 18 i
    · rw [if_pos q1]; exact h0 (fun w => (w i hi).1 q1)
    rw [if_neg q1]
    by_cases q2 : I 16 i < 0
    · rw [if_pos q2]; exact h0 (fun w => (w i hi).2.1 q2)
    rw [if_neg q2]
    by_cases q3 : I 16 i < I 14 0
    case neg => rw [if_neg q3]; exact h0 (fun w => q3 (w i hi).2.2.1)
    rw [if_pos q3]
    refine lp_inv (σ := Unit) (n := i) (G := fun o _ => mj_G Ω l false mX10_fits d 0 0 Φ 0 0 57 ([some (.ref 11), some (.int (nI i)), some (.int (nI o))], [], mk I J)) (fun o _ => ∀ o', o' < o → ¬ (I 16 o' = I 16 i ∧ I 17 o' = I 17 i)) (fun o _ ho hO hk' => ?_) (fun _ hO => ?_) i 0 () (by omega) (fun j hj => absurd hj (Nat.not_lt_zero j))
    · refine bX10_fits_57 hd (nI i) (nI o) I J ?_
      rw [if_pos (nlt (a := o) (b := i) ho (by omega))]
      simp (disch := omega) only [jn_in, jn_cl, gd_dec, jn_succ]
      have up : ¬ (I 16 o = I 16 i ∧ I 17 o = I 17 i) → ∀ o', o' < o + 1 → ¬ (I 16 o' = I 16 i ∧ I 17 o' = I 17 i) := fun w o' ho' => by
        by_cases z : o' = o
        · rw [z]; exact w
        · exact hO o' (by omega)
      by_cases w1 : I 16 o = I 16 i
      · rw [if_pos w1]
        by_cases w2 : I 17 o = I 17 i
        · rw [if_pos w2]; exact h0 (fun w => (w i hi).2.2.2 o ho ⟨w1, w2⟩)
        · rw [if_neg w2]; exact hk' () (up (fun w => w2 w.2))
      · rw [if_neg w1]; exact hk' () (up (fun w => w1 w.1))
    · refine bX10_fits_57 hd (nI i) (nI i) I J ?_
      rw [if_neg Int32.lt_irrefl, jn_succ]
      refine hk () (fun j hj => ?_)
      by_cases z : j = i
      · rw [z]; exact ⟨q1, q2, q3, hO⟩
      · exact hI j (by omega)
  · refine bX10_fits_2 hd (nI n) I J ?_
    rw [h15, if_neg Int32.lt_irrefl]
    exact h1 hI
theorem sdX10_fits : mj_Sd mX10_fits 2 tX10_fits := by
  intro Ω l d hd as M Φ h
  unfold tX10_fits at h
  split at h
  · rename_i z_this
    obtain ⟨⟨rfl, hM⟩, n, hp, h⟩ := h
    rw [mj_isk_of hM]
    exact mnX10_fits hd n _ _ hp (by
      rw [mj_isk_of hM] at h
      exact h)
  · exact h.elim
/-- the class's reader holds this water -/
def wsC (I : Nat → Nat → Int32) (s : WS) : Prop := I 11 2 = bI s.1 ∧ (s.1 = true → ∀ j, j < 7 → I 14 j = s.2.1 j) ∧ I 15 8 = nI s.2.2.1 ∧ I 15 9 = 0 ∧ ∀ i, i < s.2.2.1 → ∀ k, k < 8 → I (16 + k) i = cfB (s.2.2.2 i) k
theorem wsC_fr {I I1 : Nat → Nat → Int32} {s : WS} (h : wsC I s) (e : fr rFr I I1) : wsC I1 s := by
  obtain ⟨h1, h2, h3, h4, h5⟩ := h
  exact ⟨by rw [e 11 2 (by unfold rFr; omega)]; exact h1, fun q j hj => by rw [e 14 j (by unfold rFr; omega)]; exact h2 q j hj, by rw [e 15 8 (by unfold rFr; omega)]; exact h3, by rw [e 15 9 (by unfold rFr; omega)]; exact h4, fun i hi k hk => by rw [e _ _ (by unfold rFr; omega)]; exact h5 i hi k hk⟩
theorem wsC_st {I I1 : Nat → Nat → Int32} {t : Nat} {τ : Nat → Int32} {s : WS} {r : Except Nat (Nat × Bool × (Nat → Int32))} {q : Nat × Bool × (Nat → Int32)} (h : wsC I s) (hw : wrW r t τ s.1 s.2.2.1 I I1) (hr : r = .ok q) : wsC I1 (wst s q.2.1 q.2.2) := by
  obtain ⟨h1, h2, h3, h4, h5⟩ := h
  obtain ⟨w1, w9, -, w2⟩ := hw
  obtain ⟨-, w3, w4⟩ := w2 q hr
  cases hq : q.2.1 with
  | true =>
    obtain ⟨g1, g2, g3, g4⟩ := w3 hq
    exact ⟨g1, fun _ => g2, g3, by rw [w9]; exact h4, fun i hi k hk => by rw [g4 i hi k hk]; exact h5 i hi k hk⟩
  | false =>
    obtain ⟨g1, g2, g3, g4, g5⟩ := w4 hq
    refine ⟨by rw [g1]; exact h1, fun z j hj => by rw [g2]; exact h2 z j hj, g3, by rw [w9]; exact h4, fun i hi k hk => ?_⟩
    show I1 (16 + k) i = cfB (if i = s.2.2.1 then q.2.2 else s.2.2.2 i) k
    by_cases z : i = s.2.2.1
    · rw [if_pos z, z]; exact g4 k hk
    · rw [if_neg z]
      have : i < s.2.2.1 + 1 := hi
      rw [g5 i (by omega) k hk]; exact h5 i (by omega) k hk
theorem whole_fit {I : Nat → Nat → Int32} {s : WS} (h : wsC I s) (hr : wRg s) (hb : s.1 = true) (hn : 0 < s.2.2.1) : (∀ i, i < s.2.2.1 → fitP I i) ↔ whole s := by
  obtain ⟨h1, h2, h3, h4, h5⟩ := h
  have c0 : I 14 0 = s.2.1 0 := h2 hb 0 (by decide)
  have c : ∀ i, i < s.2.2.1 → I 16 i = s.2.2.2 i 0 ∧ I 17 i = s.2.2.2 i 1 ∧ I 18 i = s.2.2.2 i 2 ∧ I 19 i = s.2.2.2 i 3 := fun i hi => ⟨h5 i hi 0 (by decide), h5 i hi 1 (by decide), h5 i hi 2 (by decide), h5 i hi 3 (by decide)⟩
  constructor
  · intro w
    refine ⟨hb, hn, fun i hi => ?_⟩
    obtain ⟨e0, e1, e2, e3⟩ := c i hi
    obtain ⟨f1, f2, f3, f4⟩ := w i hi
    rw [e3, e2] at f1
    rw [e0, c0] at f3
    refine ⟨f1, f3, fun o ho => ?_⟩
    obtain ⟨d0, d1, -, -⟩ := c o (by omega)
    rw [← d0, ← d1, ← e0, ← e1]
    exact f4 o ho
  · rintro ⟨-, -, w⟩ i hi
    obtain ⟨e0, e1, e2, e3⟩ := c i hi
    obtain ⟨f1, f3, f4⟩ := w i hi
    have f2 := (hr.2.2 i hi 0 (by decide)).1
    refine ⟨by rw [e3, e2]; exact f1, by rw [e0]; exact f2, by rw [e0, c0]; exact f3, fun o ho => ?_⟩
    obtain ⟨d0, d1, -, -⟩ := c o (by omega)
    rw [d0, d1, e0, e1]
    exact f4 o ho
def csX10_findFault : List (Nat × Nat × Nat × mj_PT) := [(33, 0, 1, mj_rcv 8 tX8_rewind), (42, 0, 1, mj_rcv 3 tX3_empty), (45, 0, 1, mj_rcv 10 tX10_readClause), (53, 0, 2, mj_rcv 8 tX8_take), (57, 0, 1, mj_rcv 8 tX8_nextSign), (64, 0, 1, mj_rcv 10 tX10_fits)]
theorem csX10_findFault_ok : mj_Cs mX10_findFault 9 csX10_findFault := (mj_CsV (D' := 1) (ci := 8) (q := (RX8, TX8, 3)) sdX8_rewind (Nat.le_of_ble_eq_true rfl) fX8_rewind rfl rfl iX8_rewind vX8_rewind (by decide +kernel) l10_33 (mj_CsV (D' := 1) (ci := 3) (q := (RX3, TX3, 10)) sdX3_empty (Nat.le_of_ble_eq_true rfl) fX3_empty rfl rfl iX3_empty vX3_empty (by decide +kernel) l10_42 (mj_CsV (D' := 8) (ci := 10) (q := (RX10, TX10, 5)) sdX10_readClause (Nat.le_of_ble_eq_true rfl) fX10_readClause rfl rfl iX10_readClause vX10_readClause (by decide +kernel) l10_45 (mj_CsV (D' := 2) (ci := 8) (q := (RX8, TX8, 3)) sdX8_take (Nat.le_of_ble_eq_true rfl) fX8_take rfl rfl iX8_take vX8_take (by decide +kernel) l10_53 (mj_CsV (D' := 1) (ci := 8) (q := (RX8, TX8, 3)) sdX8_nextSign (Nat.le_of_ble_eq_true rfl) fX8_nextSign rfl rfl iX8_nextSign vX8_nextSign (by decide +kernel) l10_57 (mj_CsV (D' := 2) (ci := 10) (q := (RX10, TX10, 5)) sdX10_fits (Nat.le_of_ble_eq_true rfl) fX10_fits rfl rfl iX10_fits vX10_fits (by decide +kernel) l10_64 mj_Cs0))))))
def cutX10_findFault : List (Nat × List Bool) := [(21, [true, true]), (64, [true, true])]
set_option maxRecDepth 100000 in
set_option maxHeartbeats 4000000 in
theorem inX10_findFault {Ω : mj_Om} {l : Launch} {d : Nat} {Φ : Option Value → mj_M → Prop} (hd : 9 ≤ d) (I : Nat → Nat → Int32) (J : Nat → Nat → Int64)
    (h : ((mj_G Ω l false mX10_findFault d 0 0 Φ 0 0 21 ([some (.ref 11), some (.int (0 : Int32))], [], (mk (mj_ui (mj_ui (mj_ui (mj_ui I 1 2 (0 : Int32)) 11 2 (0 : Int32)) 15 8 (0 : Int32)) 15 9 (0 : Int32)) J))))) :
    mj_Met Ω l false mX10_findFault d 0 0 [.ref 11] (mk I J) Φ := mj_entry (by decide) rfl (fun h => (by cases h)) (Nat.le_of_ble_eq_true rfl) (mj_blk (μ := mX10_findFault) (P := pX10_findFault) (cut := cutX10_findFault) (cs := csX10_findFault) dX10_findFault csX10_findFault_ok hd 55 0 _ h)
set_option maxRecDepth 100000 in
set_option maxHeartbeats 4000000 in
theorem bX10_findFault_21 {Ω : mj_Om} {l : Launch} {d : Nat} {Φ : Option Value → mj_M → Prop} (hd : 9 ≤ d) (x1 : Int32) (I : Nat → Nat → Int32) (J : Nat → Nat → Int64)
    (h : ((if x1 < (240 : Int32) then ((11 = 11 ∧ mj_isk (mk I J)) ∧ (∃ t2703 : Nat, (∃ τ2704 : Nat → Int32, (∃ p2705 : Nat, (∃ b2706 : Bool, (∃ n2707 : Nat, ((TC I t2703 τ2704 ∧ I 1 2 = nI p2705 ∧ p2705 ≤ t2703 ∧ I 11 2 = bI b2706 ∧ I 15 8 = nI n2707 ∧ n2707 ≤ 8) ∧ (∀ I2708 : Nat → Nat → Int32, (wrW (wcP t2703 τ2704 p2705 b2706 n2707) t2703 τ2704 b2706 n2707 I I2708) → (if (okB (wcP t2703 τ2704 p2705 b2706 n2707)) = (0 : Int32) then (Φ (some (.int (I2708 1 2))) (mk I2708 J)) else ((1 = 1 ∧ mj_isk (mk I2708 J)) ∧ (∃ t2710 : Nat, (∃ τ2711 : Nat → Int32, (∃ p2712 : Nat, ((TC I2708 t2710 τ2711 ∧ I2708 1 2 = nI p2712 ∧ p2712 ≤ t2710) ∧ (∀ I2713 : Nat → Nat → Int32, (I2713 1 2 = nI (tkp t2710 τ2711 p2712 (59 : Int32)) ∧ fr rFr I2708 I2713) → (if (b2i (nsg t2710 τ2711 p2712 = (59 : Int32))) = (0 : Int32) then (mj_G Ω l false mX10_findFault d 0 0 Φ 0 0 64 ([some (.ref 11), some (.int x1)], [], (mk I2713 J))) else (mj_G Ω l false mX10_findFault d 0 0 Φ 0 0 21 ([some (.ref 11), some (.int (x1 + (1 : Int32)))], [], (mk I2713 J))))))))))))))))))) else (mj_G Ω l false mX10_findFault d 0 0 Φ 0 0 64 ([some (.ref 11), some (.int x1)], [], (mk I J)))))) :
    mj_G Ω l false mX10_findFault d 0 0 Φ 0 0 21 ([some (.ref 11), some (.int x1)], [], mk I J) := mj_blk (μ := mX10_findFault) (P := pX10_findFault) (cut := cutX10_findFault) (cs := csX10_findFault) dX10_findFault csX10_findFault_ok hd 55 21 _ h
set_option maxRecDepth 100000 in
set_option maxHeartbeats 4000000 in
theorem bX10_findFault_64 {Ω : mj_Om} {l : Launch} {d : Nat} {Φ : Option Value → mj_M → Prop} (hd : 9 ≤ d) (x1 : Int32) (I : Nat → Nat → Int32) (J : Nat → Nat → Int64)
    (h : (((1 = 1 ∧ mj_isk (mk I J)) ∧ (∃ t2715 : Nat, (∃ τ2716 : Nat → Int32, (∃ p2717 : Nat, ((TC I t2715 τ2716 ∧ I 1 2 = nI p2717 ∧ p2717 ≤ t2715) ∧ (∀ I2718 : Nat → Nat → Int32, (I2718 1 2 = nI (skp t2715 τ2716 p2717) ∧ fr rFr I I2718) → (if (nsg t2715 τ2716 p2717) = (-1 : Int32) then (if (I2718 11 2) = (0 : Int32) then (Φ (some (.int (I2718 1 1))) (mk I2718 J)) else (if (0 : Int32) < (I2718 15 8) then ((11 = 11 ∧ mj_isk (mk I2718 J)) ∧ (∃ n2720 : Nat, ((I2718 15 8 = nI n2720 ∧ n2720 ≤ 8) ∧ (if (b2i (∀ i, i < n2720 → fitP I2718 i)) = (0 : Int32) then (Φ (some (.int (I2718 1 1))) (mk I2718 J)) else (Φ (some (.int (-1 : Int32))) (mk I2718 J)))))) else (Φ (some (.int (I2718 1 1))) (mk I2718 J)))) else (Φ (some (.int (I2718 1 2))) (mk I2718 J))))))))))) :
    mj_G Ω l false mX10_findFault d 0 0 Φ 0 0 64 ([some (.ref 11), some (.int x1)], [], mk I J) := mj_blk (μ := mX10_findFault) (P := pX10_findFault) (cut := cutX10_findFault) (cs := csX10_findFault) dX10_findFault csX10_findFault_ok hd 55 64 _ h
def tX10_findFault : mj_PT := fun as M Φ => match as with
  | [.ref this] => ((this = 11 ∧ mj_isk M) ∧ (∃ t : Nat, (∃ τ : Nat → Int32, ((TC M.2.2.1 t τ) ∧ (∀ I1 : Nat → Nat → Int32, (fr wFr M.2.2.1 I1 ∧ ∀ s, wtP t τ = .ok s → wsC I1 s) → Φ (some (.int (faR (wtP t τ)))) (M.1, M.2.1, I1, M.2.2.2))))))
  | _ => False
set_option maxHeartbeats 8000000 in
theorem mnX10_findFault {Ω : mj_Om} {l : Launch} {d : Nat} {Φ : Option Value → mj_M → Prop} (hd : 9 ≤ d) (t : Nat) (τ : Nat → Int32) (I : Nat → Nat → Int32) (J : Nat → Nat → Int64) (hp : TC I t τ) (h : ∀ I1 : Nat → Nat → Int32, (fr wFr I I1 ∧ ∀ s, wtP t τ = .ok s → wsC I1 s) → Φ (some (.int (faR (wtP t τ)))) (mk I1 J)) : mj_Met Ω l false mX10_findFault d 0 0 [.ref 11] (mk I J) Φ := by
  refine inX10_findFault hd I J ?_
  have ht := hp.1.1
  have TA : ∀ A, fr wFr I A → TC A t τ := fun A hA => TC_fr hp (hA 1 1 (by unfold wFr; omega)) (fun k => hA 2 k (by unfold wFr; omega))
  have hE : ∀ (e : Nat) (A : Nat → Nat → Int32) (x : Int32), wtP t τ = .error e → fr wFr I A → x = nI e → Φ (some (.int x)) (mk A J) := fun e A x he hf hx => by
    have := h A ⟨hf, fun ks hk => by rw [he] at hk; cases hk⟩
    rw [he] at this
    rw [hx]
    exact this
  have hO : ∀ (s : WS) (A : Nat → Nat → Int32), wtP t τ = .ok s → fr wFr I A → wsC A s → Φ (some (.int (-1))) (mk A J) := fun s A he hf hc => by
    have := h A ⟨hf, fun s' hk => by rw [he] at hk; cases hk; exact hc⟩
    rw [he] at this
    exact this
  have key : ∀ (f i q : Nat) (s : WS) (B : Nat → Nat → Int32), t + 1 ≤ q + f → i ≤ q → q ≤ t → (i < 240) → B 1 2 = nI q → wsC B s → wRg s → fr wFr I B → wtP t τ = waP t τ f q s → mj_G Ω l false mX10_findFault d 0 0 Φ 0 0 21 ([some (.ref 11), some (.int (nI i))], [], mk B J) := by
    intro f
    induction f with
    | zero => intro i q s B hf hi hq h24 b1 bC bR bF he; omega
    | succ f ih =>
      intro i q s B hf hi hq h24 b1 bC bR bF he
      rw [waP] at he
      refine bX10_findFault_21 hd (nI i) B J ?_
      rw [if_pos (show nI i < 240 from nlt (a := i) (b := 240) h24 (by omega))]
      obtain ⟨c11, c14, c15, c159, crow⟩ := id bC
      refine ⟨⟨by trivial, mj_isk_mk _ _⟩, t, τ, q, s.1, s.2.2.1, ⟨TA B bF, b1, hq, c11, c15, bR.2.1⟩, fun C hC => ?_⟩
      have hC' := hC
      obtain ⟨w1, w9, w2, w3⟩ := hC
      have cF : fr wFr I C := fr_tr bF w1
      obtain ⟨o1, o2⟩ := wcP_ok (τ := τ) (b := s.1) (n := s.2.2.1) hq
      cases hcl : wcP t τ q s.1 s.2.2.1 with
      | error e =>
        rw [if_pos (show okB (Except.error e : Except Nat (Nat × Bool × (Nat → Int32))) = 0 from rfl)]
        rw [hcl] at he
        exact hE e C _ he cF (w2 e hcl)
      | ok r =>
        rw [if_neg (show ¬ okB (Except.ok r : Except Nat (Nat × Bool × (Nat → Int32))) = 0 by show ¬ (1 : Int32) = 0; decide)]
        rw [hcl] at he
        dsimp only at he
        obtain ⟨p1, p2, p3, p4, p5⟩ := o2 r hcl
        obtain ⟨⟨a, ha, a1, a3⟩, -, -⟩ := w3 r hcl
        have cS := wsC_st bC hC' hcl
        have cR := wst_rg bR (fun w => (p4 w).2) p5
        have en : nsg t τ a = nsg t τ r.1 := by rw [← a3, nsg_skp]
        refine ⟨⟨by trivial, mj_isk_mk _ _⟩, t, τ, a, ⟨TA C cF, a1, ha⟩, fun D hD => ?_⟩
        have dF : fr wFr I D := fr_tr cF (fr_mo hD.2 (fun c k w => Or.inl w))
        have dS := wsC_fr cS hD.2
        rw [en]
        by_cases s1 : nsg t τ r.1 = 59
        · rw [if_neg (by rw [b2i_e0]; exact fun u => u s1), jn_succ]
          rw [tkp_y (by rw [en]; exact s1), a3] at hD
          rw [if_pos s1, p3] at he
          have hlt : r.1 < t := by have := nsg_p s1 (by decide); rw [p3] at this; exact this
          exact ih (i + 1) (r.1 + 1) _ D (by omega) (by omega) (by omega) (by omega) hD.1 dS cR dF he
        · rw [if_pos (by rw [b2i_e0]; exact s1)]
          rw [tkp_n (by rw [en]; exact s1), a3] at hD
          rw [if_neg s1] at he
          refine bX10_findFault_64 hd (nI i) D J ?_
          refine ⟨⟨by trivial, mj_isk_mk _ _⟩, t, τ, r.1, ⟨TA D dF, hD.1, p2⟩, fun E hE2 => ?_⟩
          have eF : fr wFr I E := fr_tr dF (fr_mo hE2.2 (fun c k w => Or.inl w))
          have eS := wsC_fr dS hE2.2
          by_cases s2 : nsg t τ r.1 = -1
          case neg =>
            rw [if_neg s2]
            rw [if_neg s2] at he
            exact hE _ E _ he eF hE2.1
          rw [if_pos s2]
          rw [if_pos s2] at he
          have e11 : E 1 1 = nI t := (TA E eF).2.1
          have bad : ¬ whole (wst s r.2.1 r.2.2) → Φ (some (.int (E 1 1))) (mk E J) := fun w => hE t E _ (by rw [he, cif_f w]) eF e11
          rw [eS.1, eS.2.2.1]
          cases hb : (wst s r.2.1 r.2.2).1 with
          | false =>
            rw [if_pos (by decide)]
            exact bad (fun w => by rw [w.1] at hb; cases hb)
          | true =>
            rw [if_neg (by decide)]
            by_cases hn : 0 < (wst s r.2.1 r.2.2).2.2.1
            case neg =>
              rw [if_neg (show ¬ (0 : Int32) < nI _ from nnl (a := 0) (by omega) (by omega))]
              exact bad (fun w => hn w.2.1)
            rw [if_pos (show (0 : Int32) < nI _ from nlt (a := 0) hn (by have := cR.2.1; omega))]
            refine ⟨⟨by trivial, mj_isk_mk _ _⟩, (wst s r.2.1 r.2.2).2.2.1, ⟨(by first | rfl | exact eS.2.2.1), cR.2.1⟩, ?_⟩
            have iff := whole_fit eS cR hb hn
            by_cases wf : ∀ i, i < (wst s r.2.1 r.2.2).2.2.1 → fitP E i
            · rw [if_neg (by rw [b2i_e0]; exact fun u => u wf)]
              exact hO _ E (by rw [he, cif_t (iff.mp wf)]) eF eS
            · rw [if_pos (by rw [b2i_e0]; exact wf)]
              exact bad (fun w => wf (iff.mpr w))
  refine key (t + 1) 0 0 ws0 _ (by omega) (by omega) (by omega) (by omega) (by rw [ui_c (by decide), ui_c (by decide), ui_c (by decide), ui_s]; rfl) ⟨by rw [ui_c (by decide), ui_c (by decide), ui_s]; rfl, fun w => (by cases w), by rw [ui_k (by decide), ui_s]; rfl, ui_s, fun i hi => absurd hi (Nat.not_lt_zero i)⟩ wRg0 (fr_ui (fr_ui (fr_ui (fr_ui fr_rf (by unfold wFr; omega)) (by unfold wFr; omega)) (by unfold wFr; omega)) (by unfold wFr; omega)) rfl
theorem sdX10_findFault : mj_Sd mX10_findFault 9 tX10_findFault := by
  intro Ω l d hd as M Φ h
  unfold tX10_findFault at h
  split at h
  · rename_i z_this
    obtain ⟨⟨rfl, hM⟩, t, τ, hp, h⟩ := h
    rw [mj_isk_of hM]
    exact mnX10_findFault hd t τ _ _ hp (by
      rw [mj_isk_of hM] at h
      exact h)
  · exact h.elim
