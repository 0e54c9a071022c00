/-! ===== the reference's seconds: faster, one goes, drift (by program, wip/whole/pt.py) ===== -/
theorem mM_fr {S : Nat → Nat → Prop} {I I' : Nat → Nat → Int32} (h : fr S I I') (h0 : ¬ S 91 22) (q : okM I) : okM I' ∧ nM I' = nM I ∧ I' 91 22 = nI (nM I) := ⟨fr_okM h h0 q, (fr_M h h0).2, by rw [(fr_M h h0).1]; exact q.1⟩
theorem asp_m {v m : Int32} : asp v m (-1) = if 0 < v then v - 1 else v := by
  unfold asp
  rw [if_neg (show ¬ (0 : Int32) < -1 by decide), if_pos (show (-1 : Int32) < 0 by decide)]
theorem asp_1 {v m : Int32} : asp v m 1 = if v < m then v + 1 else v := by
  unfold asp
  rw [if_pos (show (0 : Int32) < 1 by decide)]
theorem fast_e {v m y : Int32} (hv : 0 ≤ v.toInt ∧ v.toInt ≤ m.toInt) (hm : m.toInt ≤ 3) (hy : y = -1 ∨ y = 0 ∨ y = 1) : (if 0 < (if v + y < m then v + y else m) then (if v + y < m then v + y else m) else 0) = asp v m y := by
  rcases hy with rfl | rfl | rfl
  · have e := i_addm (x := v) (by omega)
    have h1 : v + -1 < m := by rw [Int32.lt_iff_toInt_lt, e]; omega
    rw [if_pos h1, asp_m]
    by_cases q : 0 < v
    · rw [if_pos q]
      rw [Int32.lt_iff_toInt_lt, i_0] at q
      by_cases z : 0 < v + -1
      · rw [if_pos z]; exact (Int32.sub_eq_add_neg _ _).symm
      · rw [if_neg z]
        rw [Int32.lt_iff_toInt_lt, i_0, e] at z
        apply Int32.toInt_inj.mp
        rw [i_sub1 (by omega), i_0]
        omega
    · rw [if_neg q]
      rw [Int32.lt_iff_toInt_lt, i_0] at q
      rw [if_neg (by rw [Int32.lt_iff_toInt_lt, i_0, e]; omega)]
      apply Int32.toInt_inj.mp
      rw [i_0]
      omega
  · rw [Int32.add_zero, asp_0]
    by_cases q : v < m
    · rw [if_pos q]
      by_cases z : 0 < v
      · rw [if_pos z]
      · rw [if_neg z]
        rw [Int32.lt_iff_toInt_lt, i_0] at z
        apply Int32.toInt_inj.mp
        rw [i_0]
        omega
    · rw [if_neg q]
      rw [Int32.lt_iff_toInt_lt] at q
      have hvm : v = m := Int32.toInt_inj.mp (by omega)
      rw [← hvm]
      by_cases z : 0 < v
      · rw [if_pos z]
      · rw [if_neg z]
        rw [Int32.lt_iff_toInt_lt, i_0] at z
        apply Int32.toInt_inj.mp
        rw [i_0]
        omega
  · have e := i_add1 (x := v) (by omega)
    rw [asp_1]
    by_cases q : v + 1 < m
    · rw [if_pos q]
      rw [Int32.lt_iff_toInt_lt, e] at q
      rw [if_pos (by rw [Int32.lt_iff_toInt_lt, i_0, e]; omega), if_pos (by rw [Int32.lt_iff_toInt_lt]; omega)]
    · rw [if_neg q]
      rw [Int32.lt_iff_toInt_lt, e] at q
      by_cases z : v < m
      · rw [if_pos z]
        rw [Int32.lt_iff_toInt_lt] at z
        rw [if_pos (by rw [Int32.lt_iff_toInt_lt, i_0]; omega)]
        apply Int32.toInt_inj.mp
        rw [e]
        omega
      · rw [if_neg z]
        rw [Int32.lt_iff_toInt_lt] at z
        by_cases w : 0 < m
        · rw [if_pos w]; exact Int32.toInt_inj.mp (by omega)
        · rw [if_neg w]
          rw [Int32.lt_iff_toInt_lt, i_0] at w
          apply Int32.toInt_inj.mp
          rw [i_0]
          omega
def spB (F : Vw) (b : Nat) : Prop := (0 ≤ (F 2 b).toInt ∧ (F 2 b).toInt ≤ (F 3 b).toInt) ∧ (F 3 b).toInt ≤ 3
def csX12_fasterS : List (Nat × Nat × Nat × mj_PT) := [(274, 0, 4, mj_rcv 12 tX12_put_), (283, 0, 3, mj_rcv 12 tX12_of), (295, 1, 2, mj_ptmx), (309, 0, 2, mj_rcv 12 tX12_most), (321, 1, 2, mj_ptmn)]
theorem csX12_fasterS_ok : mj_Cs mX12_faster 2 csX12_fasterS := (mj_CsV (D' := 1) (ci := 12) (q := (RX12, TX12, 45)) sdX12_put_ (Nat.le_of_ble_eq_true rfl) fX12_put_ rfl rfl iX12_put_ vX12_put_ (by decide +kernel) l12_274 (mj_CsV (D' := 1) (ci := 12) (q := (RX12, TX12, 45)) sdX12_of (Nat.le_of_ble_eq_true rfl) fX12_of rfl rfl iX12_of vX12_of (by decide +kernel) l12_283 (mj_Csmx (Nat.le_of_ble_eq_true rfl) l12_295 (mj_CsV (D' := 1) (ci := 12) (q := (RX12, TX12, 45)) sdX12_most (Nat.le_of_ble_eq_true rfl) fX12_most rfl rfl iX12_most vX12_most (by decide +kernel) l12_309 (mj_Csmn (Nat.le_of_ble_eq_true rfl) l12_321 mj_Cs0)))))
def cutX12_fasterS : List (Nat × List Bool) := []
set_option maxRecDepth 100000 in
set_option maxHeartbeats 4000000 in
theorem inX12_fasterS {Ω : mj_Om} {l : Launch} {d : Nat} {Φ : Option Value → mj_M → Prop} (hd : 2 ≤ d) (b_ : Int32) (y : Int32) (I : Nat → Nat → Int32) (J : Nat → Nat → Int64)
    (h : ((mj_gd (mj_inB (((6 : Int32) * b_) + (3 : Int32)) 48) (mj_gd (mj_inB (((6 : Int32) * b_) + (2 : Int32)) 49) (mj_gd (mj_inB (((6 : Int32) * b_) + (2 : Int32)) 49) (Φ none (mk (mj_ui I 106 ((((6 : Int32) * b_) + (2 : Int32))).toNatClampNeg (if (0 : Int32) < (if ((I 106 ((((6 : Int32) * b_) + (2 : Int32))).toNatClampNeg) + y) < (I 105 ((((6 : Int32) * b_) + (3 : Int32))).toNatClampNeg) then ((I 106 ((((6 : Int32) * b_) + (2 : Int32))).toNatClampNeg) + y) else (I 105 ((((6 : Int32) * b_) + (3 : Int32))).toNatClampNeg)) then (if ((I 106 ((((6 : Int32) * b_) + (2 : Int32))).toNatClampNeg) + y) < (I 105 ((((6 : Int32) * b_) + (3 : Int32))).toNatClampNeg) then ((I 106 ((((6 : Int32) * b_) + (2 : Int32))).toNatClampNeg) + y) else (I 105 ((((6 : Int32) * b_) + (3 : Int32))).toNatClampNeg)) else (0 : Int32))) J))))))) :
    mj_Met Ω l false mX12_faster d 0 0 [.ref 91, .int b_, .int y] (mk I J) Φ := mj_entry (by decide) rfl (fun h => (by cases h)) (Nat.le_of_ble_eq_true rfl) (mj_blk (μ := mX12_faster) (P := pX12_faster) (cut := cutX12_fasterS) (cs := csX12_fasterS) dX12_faster csX12_fasterS_ok hd 18 0 _ h)
def tX12_fasterS : mj_PT := fun as M Φ => match as with
  | [.ref this, .int b_, .int y] => ((this = 91 ∧ mj_isk M) ∧ (∃ b : Nat, b_ = nI b ∧ ((okM M.2.2.1 ∧ b < nM M.2.2.1 ∧ spB (VM M.2.2.1) b ∧ (y = -1 ∨ y = 0 ∨ y = 1)) ∧ (∀ I1 : Nat → Nat → Int32, (VM I1 = vup (VM M.2.2.1) 2 b (asp (VM M.2.2.1 2 b) (VM M.2.2.1 3 b) y) ∧ fr (fun c k => c = 106 ∧ k < 48) M.2.2.1 I1) → Φ none (M.1, M.2.1, I1, M.2.2.2)))))
  | _ => False
theorem mnX12_fasterS {Ω : mj_Om} {l : Launch} {d : Nat} {Φ : Option Value → mj_M → Prop} (hd : 2 ≤ d) (b : Nat) (y : Int32) (I : Nat → Nat → Int32) (J : Nat → Nat → Int64) (hp : okM I ∧ b < nM I ∧ spB (VM I) b ∧ (y = -1 ∨ y = 0 ∨ y = 1)) (h : ∀ I1 : Nat → Nat → Int32, (VM I1 = vup (VM I) 2 b (asp (VM I 2 b) (VM I 3 b) y) ∧ fr (fun c k => c = 106 ∧ k < 48) I I1) → Φ none (mk I1 J)) : mj_Met Ω l false mX12_faster d 0 0 [.ref 91, .int (nI b), .int y] (mk I J) Φ := by
  refine inX12_fasterS hd (nI b) y I J ?_
  obtain ⟨⟨hc, hn⟩, hb, hs, hy⟩ := hp
  simp (disch := omega) only [jn_in, jn_cl, gd_dec, n6_2, n6_3]
  rw [← VM_2 hb, ← VM_3 hb, fast_e hs.1 hs.2 hy]
  exact h _ ⟨VMu_2 hb, fr_ui fr_rf ⟨rfl, by omega⟩⟩
theorem sdX12_fasterS : mj_Sd mX12_faster 2 tX12_fasterS := by
  intro Ω l d hd as M Φ h
  unfold tX12_fasterS at h
  split at h
  · rename_i z_this b_ y
    obtain ⟨⟨rfl, hM⟩, b, rfl, hp, h⟩ := h
    rw [mj_isk_of hM]
    exact mnX12_fasterS hd b y _ _ hp (by
      rw [mj_isk_of hM] at h
      exact h)
  · exact h.elim
def csX12_goOne : List (Nat × Nat × Nat × mj_PT) := [(274, 0, 4, mj_rcv 12 tX12_put_), (283, 0, 3, mj_rcv 12 tX12_of), (289, 0, 3, mj_rcv 12 tX12_isHeld), (295, 1, 2, mj_ptmx)]
theorem csX12_goOne_ok : mj_Cs mX12_goOne 3 csX12_goOne := (mj_CsV (D' := 1) (ci := 12) (q := (RX12, TX12, 45)) sdX12_put_ (Nat.le_of_ble_eq_true rfl) fX12_put_ rfl rfl iX12_put_ vX12_put_ (by decide +kernel) l12_274 (mj_CsV (D' := 1) (ci := 12) (q := (RX12, TX12, 45)) sdX12_of (Nat.le_of_ble_eq_true rfl) fX12_of rfl rfl iX12_of vX12_of (by decide +kernel) l12_283 (mj_CsV (D' := 2) (ci := 12) (q := (RX12, TX12, 45)) sdX12_isHeld (Nat.le_of_ble_eq_true rfl) fX12_isHeld rfl rfl iX12_isHeld vX12_isHeld (by decide +kernel) l12_289 (mj_Csmx (Nat.le_of_ble_eq_true rfl) l12_295 mj_Cs0))))
def cutX12_goOne : List (Nat × List Bool) := [(26, [true, true, true])]
set_option maxRecDepth 100000 in
set_option maxHeartbeats 4000000 in
theorem inX12_goOne {Ω : mj_Om} {l : Launch} {d : Nat} {Φ : Option Value → mj_M → Prop} (hd : 3 ≤ d) (b_ : Int32) (I : Nat → Nat → Int32) (J : Nat → Nat → Int64)
    (h : ((mj_gd (mj_inB (((6 : Int32) * b_) + (2 : Int32)) 49) (mj_gd (mj_inB b_ 8) (if (I 107 (b_).toNatClampNeg) = (0 : Int32) then (mj_G Ω l false mX12_goOne d 0 0 Φ 0 0 26 ([some (.ref 91), some (.int b_), some (.int (if (0 : Int32) < ((I 106 ((((6 : Int32) * b_) + (2 : Int32))).toNatClampNeg) - (0 : Int32)) then ((I 106 ((((6 : Int32) * b_) + (2 : Int32))).toNatClampNeg) - (0 : Int32)) else (0 : Int32)))], [], (mk I J))) else (mj_G Ω l false mX12_goOne d 0 0 Φ 0 0 26 ([some (.ref 91), some (.int b_), some (.int (if (0 : Int32) < ((I 106 ((((6 : Int32) * b_) + (2 : Int32))).toNatClampNeg) - (1 : Int32)) then ((I 106 ((((6 : Int32) * b_) + (2 : Int32))).toNatClampNeg) - (1 : Int32)) else (0 : Int32)))], [], (mk I J)))))))) :
    mj_Met Ω l false mX12_goOne d 0 0 [.ref 91, .int b_] (mk I J) Φ := mj_entry (by decide) rfl (fun h => (by cases h)) (Nat.le_of_ble_eq_true rfl) (mj_blk (μ := mX12_goOne) (P := pX12_goOne) (cut := cutX12_goOne) (cs := csX12_goOne) dX12_goOne csX12_goOne_ok hd 53 0 _ h)
set_option maxRecDepth 100000 in
set_option maxHeartbeats 4000000 in
theorem bX12_goOne_26 {Ω : mj_Om} {l : Launch} {d : Nat} {Φ : Option Value → mj_M → Prop} (hd : 3 ≤ d) (x1 : Int32) (x2 : Int32) (I : Nat → Nat → Int32) (J : Nat → Nat → Int64)
    (h : ((if (0 : Int32) < x2 then (mj_gd (mj_inB (((6 : Int32) * x1) + (0 : Int32)) 49) (mj_gd (mj_inB (((6 : Int32) * x1) + (1 : Int32)) 49) ((91 = 91 ∧ mj_isk (mk I J)) ∧ ((okM I) ∧ (if (b2i (held (nM I) (VM I) (I 106 ((((6 : Int32) * x1) + (0 : Int32))).toNatClampNeg) ((I 106 ((((6 : Int32) * x1) + (1 : Int32))).toNatClampNeg) - (1 : Int32)))) = (0 : Int32) then (mj_gd (mj_inB (((6 : Int32) * x1) + (1 : Int32)) 49) (mj_gd (mj_inB (((6 : Int32) * x1) + (1 : Int32)) 49) (mj_G Ω l false mX12_goOne d 0 0 Φ 0 0 26 ([some (.ref 91), some (.int x1), some (.int (x2 + (-1 : Int32)))], [], (mk (mj_ui I 106 ((((6 : Int32) * x1) + (1 : Int32))).toNatClampNeg ((I 106 ((((6 : Int32) * x1) + (1 : Int32))).toNatClampNeg) - (1 : Int32))) J))))) else (mj_gd (mj_inB (((6 : Int32) * x1) + (2 : Int32)) 49) (mj_G Ω l false mX12_goOne d 0 0 Φ 0 0 26 ([some (.ref 91), some (.int x1), some (.int (0 : Int32))], [], (mk (mj_ui I 106 ((((6 : Int32) * x1) + (2 : Int32))).toNatClampNeg (0 : Int32)) J))))))))) else (Φ none (mk I J))))) :
    mj_G Ω l false mX12_goOne d 0 0 Φ 0 0 26 ([some (.ref 91), some (.int x1), some (.int x2)], [], mk I J) := mj_blk (μ := mX12_goOne) (P := pX12_goOne) (cut := cutX12_goOne) (cs := csX12_goOne) dX12_goOne csX12_goOne_ok hd 53 26 _ h
def tX12_goOne : mj_PT := fun as M Φ => match as with
  | [.ref this, .int b_] => ((this = 91 ∧ mj_isk M) ∧ (∃ b : Nat, b_ = nI b ∧ ((okM M.2.2.1 ∧ b < nM M.2.2.1 ∧ spB (VM M.2.2.1) b ∧ (M.2.2.1 107 b = 0 ∨ M.2.2.1 107 b = 1)) ∧ (∀ I1 : Nat → Nat → Int32, (VM I1 = sailV (nM M.2.2.1) (M.2.2.1 107) (VM M.2.2.1) b ∧ fr (fun c k => c = 106 ∧ k < 48) M.2.2.1 I1) → Φ none (M.1, M.2.1, I1, M.2.2.2)))))
  | _ => False
set_option maxHeartbeats 4000000 in
theorem mnX12_goOne {Ω : mj_Om} {l : Launch} {d : Nat} {Φ : Option Value → mj_M → Prop} (hd : 3 ≤ d) (b : Nat) (I : Nat → Nat → Int32) (J : Nat → Nat → Int64) (hp : okM I ∧ b < nM I ∧ spB (VM I) b ∧ (I 107 b = 0 ∨ I 107 b = 1)) (h : ∀ I1 : Nat → Nat → Int32, (VM I1 = sailV (nM I) (I 107) (VM I) b ∧ fr (fun c k => c = 106 ∧ k < 48) I I1) → Φ none (mk I1 J)) : mj_Met Ω l false mX12_goOne d 0 0 [.ref 91, .int (nI b)] (mk I J) Φ := by
  refine inX12_goOne hd (nI b) I J ?_
  obtain ⟨⟨hc, hn⟩, hb, hs, h1⟩ := hp
  have key : ∀ (k : Nat) (x : Int32) (I' : Nat → Nat → Int32), k ≤ 100 → x.toNatClampNeg = k → 0 ≤ x.toInt → fr (fun c k => c = 106 ∧ k < 48) I I' → (∀ I1, (VM I1 = sailN (nM I) b k (VM I') ∧ fr (fun c k => c = 106 ∧ k < 48) I I1) → Φ none (mk I1 J)) → mj_G Ω l false mX12_goOne d 0 0 Φ 0 0 26 ([some (.ref 91), some (.int (nI b)), some (.int x)], [], mk I' J) := by
    intro k
    induction k with
    | zero =>
      intro x I' _ hx hx0 hfr h
      refine bX12_goOne_26 hd (nI b) x I' J ?_
      rw [if_neg (by rw [jn_ltx0]; omega)]
      exact h I' ⟨rfl, hfr⟩
    | succ k ih =>
      intro x I' hk hx hx0 hfr h
      refine bX12_goOne_26 hd (nI b) x I' J ?_
      obtain ⟨ho, hn2, -⟩ := mM_fr hfr (by (try dsimp only); omega) ⟨hc, hn⟩
      rw [if_pos (by rw [jn_ltx0]; omega)]
      have hcl : x.toNatClampNeg = x.toInt.toNat := rfl
      simp (disch := omega) only [jn_in, jn_cl, gd_dec, n6_0, n6_1, n6_2]
      rw [← VM_0 (I := I') (b := b) (by omega), ← VM_1 (I := I') (b := b) (by omega), hn2]
      refine ⟨⟨by trivial, mj_isk_mk _ _⟩, ho, ?_⟩
      split
      · rename_i q
        rw [b2i_e0] at q
        have e1 := i_addm (x := x) (by omega)
        refine ih (x + -1) _ (by omega) (by rw [Int32.toNatClampNeg, e1]; omega) (by omega) (fr_ui hfr ⟨rfl, by omega⟩) (fun I1 h1 => h I1 ⟨?_, h1.2⟩)
        rw [sailN, cif_f q, h1.1, VMu_1 (by omega)]
      · rename_i q
        rw [b2i_e0] at q
        refine bX12_goOne_26 hd (nI b) 0 _ J ?_
        rw [if_neg (by decide)]
        refine h _ ⟨?_, fr_ui hfr ⟨rfl, by omega⟩⟩
        rw [sailN, cif_t (Classical.not_not.mp q), VMu_2 (by omega)]
  unfold sailV at h
  simp (disch := omega) only [jn_in, jn_cl, gd_dec, n6_2]
  rw [← VM_2 hb]
  have mx : ∀ y : Int32, y.toNatClampNeg ≤ 3 → (VM I 2 b - I 107 b = y) → mj_G Ω l false mX12_goOne d 0 0 Φ 0 0 26 ([some (.ref 91), some (.int (nI b)), some (.int (if 0 < y then y else 0))], [], mk I J) := by
    intro y hy3 hy
    rw [hy] at h
    have hcl : y.toNatClampNeg = y.toInt.toNat := rfl
    by_cases q : 0 < y
    · rw [if_pos q]
      rw [Int32.lt_iff_toInt_lt, i_0] at q
      exact key _ y I (by omega) rfl (by omega) fr_rf h
    · rw [if_neg q]
      rw [Int32.lt_iff_toInt_lt, i_0] at q
      rw [show y.toNatClampNeg = 0 by omega] at h
      exact key 0 0 I (by omega) rfl (by decide) fr_rf h
  have h3 := cl_sub (x := VM I 2 b) (y := I 107 b) (by have := hs.1; have := hs.2; omega) h1
  rcases h1 with q | q
  · rw [if_pos q]
    exact mx _ (by rw [q] at h3; exact h3) (by rw [q])
  · rw [if_neg (by rw [q]; decide)]
    exact mx _ (by rw [q] at h3; exact h3) (by rw [q])
theorem sdX12_goOne : mj_Sd mX12_goOne 3 tX12_goOne := by
  intro Ω l d hd as M Φ h
  unfold tX12_goOne at h
  split at h
  · rename_i z_this b_
    obtain ⟨⟨rfl, hM⟩, b, rfl, hp, h⟩ := h
    rw [mj_isk_of hM]
    exact mnX12_goOne hd b _ _ hp (by
      rw [mj_isk_of hM] at h
      exact h)
  · exact h.elim
def csX12_drift : List (Nat × Nat × Nat × mj_PT) := [(274, 0, 4, mj_rcv 12 tX12_put_), (283, 0, 3, mj_rcv 12 tX12_of), (289, 0, 3, mj_rcv 12 tX12_isHeld)]
theorem csX12_drift_ok : mj_Cs mX12_drift 3 csX12_drift := (mj_CsV (D' := 1) (ci := 12) (q := (RX12, TX12, 45)) sdX12_put_ (Nat.le_of_ble_eq_true rfl) fX12_put_ rfl rfl iX12_put_ vX12_put_ (by decide +kernel) l12_274 (mj_CsV (D' := 1) (ci := 12) (q := (RX12, TX12, 45)) sdX12_of (Nat.le_of_ble_eq_true rfl) fX12_of rfl rfl iX12_of vX12_of (by decide +kernel) l12_283 (mj_CsV (D' := 2) (ci := 12) (q := (RX12, TX12, 45)) sdX12_isHeld (Nat.le_of_ble_eq_true rfl) fX12_isHeld rfl rfl iX12_isHeld vX12_isHeld (by decide +kernel) l12_289 mj_Cs0)))
def cutX12_drift : List (Nat × List Bool) := [(9, [true, true, false]), (15, [true, true, true])]
set_option maxRecDepth 100000 in
set_option maxHeartbeats 4000000 in
theorem inX12_drift {Ω : mj_Om} {l : Launch} {d : Nat} {Φ : Option Value → mj_M → Prop} (hd : 3 ≤ d) (I : Nat → Nat → Int32) (J : Nat → Nat → Int64)
    (h : ((mj_G Ω l false mX12_drift d 0 0 Φ 0 0 9 ([some (.ref 91), some (.int ((I 104 0) - (2 : Int32))), none], [], (mk I J))))) :
    mj_Met Ω l false mX12_drift d 0 0 [.ref 91] (mk I J) Φ := mj_entry (by decide) rfl (fun h => (by cases h)) (Nat.le_of_ble_eq_true rfl) (mj_blk (μ := mX12_drift) (P := pX12_drift) (cut := cutX12_drift) (cs := csX12_drift) dX12_drift csX12_drift_ok hd 44 0 _ h)
set_option maxRecDepth 100000 in
set_option maxHeartbeats 4000000 in
theorem bX12_drift_9 {Ω : mj_Om} {l : Launch} {d : Nat} {Φ : Option Value → mj_M → Prop} (hd : 3 ≤ d) (x1 : Int32) (I : Nat → Nat → Int32) (J : Nat → Nat → Int64)
    (h : ((if x1 < (0 : Int32) then (Φ none (mk I J)) else (mj_G Ω l false mX12_drift d 0 0 Φ 0 0 15 ([some (.ref 91), some (.int x1), some (.int (0 : Int32))], [], (mk I J)))))) :
    mj_G Ω l false mX12_drift d 0 0 Φ 0 0 9 ([some (.ref 91), some (.int x1), none], [], mk I J) := mj_blk (μ := mX12_drift) (P := pX12_drift) (cut := cutX12_drift) (cs := csX12_drift) dX12_drift csX12_drift_ok hd 44 9 _ h
set_option maxRecDepth 100000 in
set_option maxHeartbeats 4000000 in
theorem bX12_drift_15 {Ω : mj_Om} {l : Launch} {d : Nat} {Φ : Option Value → mj_M → Prop} (hd : 3 ≤ d) (x1 : Int32) (x2 : Int32) (I : Nat → Nat → Int32) (J : Nat → Nat → Int64)
    (h : ((if x2 < (I 91 22) then (mj_gd (mj_inB (((6 : Int32) * x2) + (0 : Int32)) 49) (if (I 106 ((((6 : Int32) * x2) + (0 : Int32))).toNatClampNeg) = x1 then (mj_gd (mj_inB (((6 : Int32) * x2) + (1 : Int32)) 49) ((91 = 91 ∧ mj_isk (mk I J)) ∧ ((okM I) ∧ (if (b2i (held (nM I) (VM I) (x1 + (1 : Int32)) (I 106 ((((6 : Int32) * x2) + (1 : Int32))).toNatClampNeg))) = (0 : Int32) then (mj_gd (mj_inB (((6 : Int32) * x2) + (0 : Int32)) 49) (mj_G Ω l false mX12_drift d 0 0 Φ 0 0 15 ([some (.ref 91), some (.int x1), some (.int (x2 + (1 : Int32)))], [], (mk (mj_ui I 106 ((((6 : Int32) * x2) + (0 : Int32))).toNatClampNeg (x1 + (1 : Int32))) J)))) else (mj_G Ω l false mX12_drift d 0 0 Φ 0 0 15 ([some (.ref 91), some (.int x1), some (.int (x2 + (1 : Int32)))], [], (mk I J))))))) else (mj_G Ω l false mX12_drift d 0 0 Φ 0 0 15 ([some (.ref 91), some (.int x1), some (.int (x2 + (1 : Int32)))], [], (mk I J))))) else (mj_G Ω l false mX12_drift d 0 0 Φ 0 0 9 ([some (.ref 91), some (.int (x1 + (-1 : Int32))), none], [], (mk I J)))))) :
    mj_G Ω l false mX12_drift d 0 0 Φ 0 0 15 ([some (.ref 91), some (.int x1), some (.int x2)], [], mk I J) := mj_blk (μ := mX12_drift) (P := pX12_drift) (cut := cutX12_drift) (cs := csX12_drift) dX12_drift csX12_drift_ok hd 44 15 _ h
def tX12_drift : mj_PT := fun as M Φ => match as with
  | [.ref this] => ((this = 91 ∧ mj_isk M) ∧ ((okM M.2.2.1 ∧ lineOk (lv7 (M.2.2.1 104))) ∧ (∀ I1 : Nat → Nat → Int32, (VM I1 = driftC (nM M.2.2.1) ((M.2.2.1 104 0).toNatClampNeg - 1) (VM M.2.2.1) ∧ fr (fun c k => c = 106 ∧ k < 48) M.2.2.1 I1) → Φ none (M.1, M.2.1, I1, M.2.2.2))))
  | _ => False
set_option maxHeartbeats 4000000 in
theorem mnX12_drift {Ω : mj_Om} {l : Launch} {d : Nat} {Φ : Option Value → mj_M → Prop} (hd : 3 ≤ d) (I : Nat → Nat → Int32) (J : Nat → Nat → Int64) (hp : okM I ∧ lineOk (lv7 (I 104))) (h : ∀ I1 : Nat → Nat → Int32, (VM I1 = driftC (nM I) ((I 104 0).toNatClampNeg - 1) (VM I) ∧ fr (fun c k => c = 106 ∧ k < 48) I I1) → Φ none (mk I1 J)) : mj_Met Ω l false mX12_drift d 0 0 [.ref 91] (mk I J) Φ := by
  refine inX12_drift hd I J ?_
  obtain ⟨⟨hc, hn⟩, hl⟩ := hp
  have hw := hl.1
  rw [lv7_at (by decide)] at hw
  have hcl : (I 104 0).toNatClampNeg = (I 104 0).toInt.toNat := rfl
  have key : ∀ (m : Nat) (x2 : Int32) (I' : Nat → Nat → Int32), m ≤ 19 → x2.toInt = (m : Int) - 1 → fr (fun c k => c = 106 ∧ k < 48) I I' → (∀ I1, (VM I1 = driftC (nM I) m (VM I') ∧ fr (fun c k => c = 106 ∧ k < 48) I I1) → Φ none (mk I1 J)) → mj_G Ω l false mX12_drift d 0 0 Φ 0 0 9 ([some (.ref 91), some (.int x2), none], [], mk I' J) := by
    intro m
    induction m with
    | zero =>
      intro x2 I' _ hx hfr h
      refine bX12_drift_9 hd x2 I' J ?_
      rw [if_pos (by rw [Int32.lt_iff_toInt_lt, i_0]; omega)]
      exact h I' ⟨rfl, hfr⟩
    | succ m ih =>
      intro x2 I' hm hx hfr h
      have hx2 : x2 = nI m := Int32.toInt_inj.mp (by rw [jn_toInt (by omega)]; omega)
      subst hx2
      refine bX12_drift_9 hd (nI m) I' J ?_
      rw [if_neg (by rw [Int32.lt_iff_toInt_lt, i_0]; omega)]
      refine lp_inv (σ := Nat → Nat → Int32) (n := nM I) (G := fun i I'' => mj_G Ω l false mX12_drift d 0 0 Φ 0 0 15 ([some (.ref 91), some (.int (nI m)), some (.int (nI i))], [], mk I'' J)) (fun i I'' => VM I'' = driftB (nM I) m i (VM I') ∧ fr (fun c k => c = 106 ∧ k < 48) I I'') (fun i I'' hi hI hk => ?_) (fun I'' hI => ?_) (nM I) 0 I' (by omega) ⟨rfl, hfr⟩
      · refine bX12_drift_15 hd (nI m) (nI i) I'' J ?_
        obtain ⟨hV, hfr2⟩ := hI
        obtain ⟨hok, en, e8⟩ := mM_fr hfr2 (by (try dsimp only); omega) ⟨hc, hn⟩
        rw [e8, if_pos (by rw [jn_lt (by omega) (by omega)]; exact hi)]
        simp (disch := omega) only [jn_in, jn_cl, gd_dec, n6_0, n6_1, jn_succ]
        rw [← VM_0 (I := I'') (b := i) (by omega), ← VM_1 (I := I'') (b := i) (by omega), en]
        split
        · rename_i q
          refine ⟨⟨by trivial, mj_isk_mk _ _⟩, hok, ?_⟩
          split
          · rename_i q2
            rw [b2i_e0] at q2
            exact hk _ ⟨by rw [VMu_0 (by omega), driftB, ← hV, cif_t ⟨q, q2⟩], fr_ui hfr2 ⟨rfl, by omega⟩⟩
          · rename_i q2
            rw [b2i_e0] at q2
            exact hk _ ⟨by rw [driftB, ← hV, cif_f (fun z => q2 z.2)], hfr2⟩
        · rename_i q
          exact hk _ ⟨by rw [driftB, ← hV, cif_f (fun z => q z.1)], hfr2⟩
      · refine bX12_drift_15 hd (nI m) (nI (nM I)) I'' J ?_
        obtain ⟨hV, hfr2⟩ := hI
        obtain ⟨hok, en, e8⟩ := mM_fr hfr2 (by (try dsimp only); omega) ⟨hc, hn⟩
        rw [e8, if_neg (by rw [jn_lt (by omega) (by omega)]; omega)]
        exact ih _ I'' (by omega) (by rw [i_addm (by rw [jn_toInt (by omega)]; omega), jn_toInt (by omega)]) hfr2 (fun I1 h1 => h I1 ⟨by rw [h1.1, hV]; rfl, h1.2⟩)
  exact key ((I 104 0).toNatClampNeg - 1) _ I (by omega) (by rw [i_sub (y := 2) (by have : (2 : Int32).toInt = 2 := rfl; omega)]; have : (2 : Int32).toInt = 2 := rfl; omega) fr_rf h
theorem sdX12_drift : mj_Sd mX12_drift 3 tX12_drift := by
  intro Ω l d hd as M Φ h
  unfold tX12_drift at h
  split at h
  · rename_i z_this
    obtain ⟨⟨rfl, hM⟩, hp, h⟩ := h
    rw [mj_isk_of hM]
    exact mnX12_drift hd _ _ hp (by
      rw [mj_isk_of hM] at h
      exact h)
  · exact h.elim
theorem cm_if2 {e g : Int32} {A B : Prop} (hA : comes e g → A) (hB : ¬ comes e g → B) : (if e = 0 then B else mj_gd (!decide (e = 0)) (if g - g / e * e = 0 then A else B)) := by
  by_cases q : e = 0
  · rw [if_pos q]; exact hB (fun w => w.1 q)
  · rw [if_neg q]
    simp only [q, decide_false, Bool.not_false, gd_true]
    by_cases z : g - g / e * e = 0
    · rw [if_pos z]; exact hA ⟨q, z⟩
    · rw [if_neg z]; exact hB (fun w => z w.2)
theorem ord_min {n k b : Nat} {B : Nat → Int32} (hb : b < n) (hk : k < n) (h1 : ¬ rk n B b < k) (h2 : ∀ j, j < n → ¬ rk n B j < k → j = b ∨ lx B b j) : ordN n B k = b := by
  obtain ⟨g1, g2⟩ := ordN_sp (B := B) hk
  rcases h2 _ g1 (by omega) with q | q
  · exact q
  · have := rk_lt (n := n) hb q
    omega
theorem spB_up {F : Vw} {k b c : Nat} {x : Int32} (h : spB F c) (h2 : k = 2 → b = c → 0 ≤ x.toInt ∧ x.toInt ≤ (F 3 c).toInt) (h3 : ¬ k = 3) : spB (vup F k b x) c := by
  unfold spB at h ⊢
  rw [vup_k (k := k) (k' := 3) (Ne.symm h3)]
  by_cases q : k = 2
  · by_cases z : c = b
    · subst q; subst z
      rw [vup_s]
      exact ⟨h2 rfl rfl, h.2⟩
    · rw [vup_b z]; exact h
  · rw [vup_k (Ne.symm q)]; exact h
theorem spB_sailN {n b c : Nat} : ∀ (k : Nat) (F : Vw), spB F c → spB (sailN n b k F) c := by
  intro k
  induction k with
  | zero => intro F h; exact h
  | succ k ih =>
    intro F h
    rw [sailN]
    rcases Classical.em (held n F (F 0 b) (F 1 b - 1)) with q | q
    · rw [cif_t q]
      exact spB_up h (fun _ _ => ⟨by decide, by rw [i_0]; have := h.1; omega⟩) (by decide)
    · rw [cif_f q]
      exact ih _ (spB_up h (fun w => absurd w (by decide)) (by decide))
theorem spB_sail {n b c : Nat} {Sh : Nat → Int32} {F : Vw} (h : spB F c) : spB (sailV n Sh F b) c := spB_sailN _ _ h
def csX12_goAll : List (Nat × Nat × Nat × mj_PT) := [(225, 1, 2, tX12_has), (274, 0, 4, mj_rcv 12 tX12_put_), (283, 0, 3, mj_rcv 12 tX12_of), (323, 0, 1, mj_rcv 12 tX12_leftSeconds), (346, 0, 2, mj_rcv 12 tX12_goOne), (349, 0, 1, mj_rcv 12 tX12_drift)]
theorem csX12_goAll_ok : mj_Cs mX12_goAll 4 csX12_goAll := (mj_CsS (D' := 1) sdX12_has (Nat.le_of_ble_eq_true rfl) fX12_has sX12_has (by decide +kernel) l12_225 (mj_CsV (D' := 1) (ci := 12) (q := (RX12, TX12, 45)) sdX12_put_ (Nat.le_of_ble_eq_true rfl) fX12_put_ rfl rfl iX12_put_ vX12_put_ (by decide +kernel) l12_274 (mj_CsV (D' := 1) (ci := 12) (q := (RX12, TX12, 45)) sdX12_of (Nat.le_of_ble_eq_true rfl) fX12_of rfl rfl iX12_of vX12_of (by decide +kernel) l12_283 (mj_CsV (D' := 1) (ci := 12) (q := (RX12, TX12, 45)) sdX12_leftSeconds (Nat.le_of_ble_eq_true rfl) fX12_leftSeconds rfl rfl iX12_leftSeconds vX12_leftSeconds (by decide +kernel) l12_323 (mj_CsV (D' := 3) (ci := 12) (q := (RX12, TX12, 45)) sdX12_goOne (Nat.le_of_ble_eq_true rfl) fX12_goOne rfl rfl iX12_goOne vX12_goOne (by decide +kernel) l12_346 (mj_CsV (D' := 3) (ci := 12) (q := (RX12, TX12, 45)) sdX12_drift (Nat.le_of_ble_eq_true rfl) fX12_drift rfl rfl iX12_drift vX12_drift (by decide +kernel) l12_349 mj_Cs0))))))
def cutX12_goAll : List (Nat × List Bool) := [(4, [true, true, true, false, false]), (17, [true, true, true, true, true]), (86, [true, true, true, false, false]), (97, [true, true, true, false, false]), (125, [true, true, true, false, false]), (153, [true, true, true, false, false]), (183, [true, true, true, false, false]), (185, [true, true, true, false, false])]
def pX12_goAll_0 : List (Nat × Instr × Nat) := [(0, .iconst 0, 1), (1, .istore_n 1, 1), (2, .iconst 0, 1), (3, .istore_n 2, 1), (4, .iload_n 2, 1)]
set_option maxRecDepth 100000 in
theorem dX12_goAll_0 : mj_pd cX12_goAll pX12_goAll_0 := mj_pdB (by decide +kernel)
set_option maxRecDepth 100000 in
set_option maxHeartbeats 4000000 in
theorem inX12_goAll {Ω : mj_Om} {l : Launch} {d : Nat} {Φ : Option Value → mj_M → Prop} (hd : 4 ≤ d) (I : Nat → Nat → Int32) (J : Nat → Nat → Int64)
    (h : ((mj_G Ω l false mX12_goAll d 0 0 Φ 0 0 4 ([some (.ref 91), some (.int (0 : Int32)), some (.int (0 : Int32)), none, none], [], (mk I J))))) :
    mj_Met Ω l false mX12_goAll d 0 0 [.ref 91] (mk I J) Φ := mj_entry (by decide) rfl (fun h => (by cases h)) (Nat.le_of_ble_eq_true rfl) (mj_blk (μ := mX12_goAll) (P := pX12_goAll_0) (cut := cutX12_goAll) (cs := csX12_goAll) dX12_goAll_0 csX12_goAll_ok hd 6 0 _ h)
def pX12_goAll_4 : List (Nat × Instr × Nat) := [(4, .iload_n 2, 1), (5, .aload_n 0, 1), (6, .getfield 255, 3), (9, .if_icmp .ge 77, 3), (12, .iconst (-1), 1), (13, .istore_n 3, 1), (14, .iconst 0, 1), (15, .istore 4, 2), (17, .iload 4, 2), (86, .aload_n 0, 1)]
set_option maxRecDepth 100000 in
theorem dX12_goAll_4 : mj_pd cX12_goAll pX12_goAll_4 := mj_pdB (by decide +kernel)
set_option maxRecDepth 100000 in
set_option maxHeartbeats 4000000 in
theorem bX12_goAll_4 {Ω : mj_Om} {l : Launch} {d : Nat} {Φ : Option Value → mj_M → Prop} (hd : 4 ≤ d) (x1 : Int32) (x2 : Int32) (I : Nat → Nat → Int32) (J : Nat → Nat → Int64)
    (h : ((if x2 < (I 91 22) then (mj_G Ω l false mX12_goAll d 0 0 Φ 0 0 17 ([some (.ref 91), some (.int x1), some (.int x2), some (.int (-1 : Int32)), some (.int (0 : Int32))], [], (mk I J))) else (mj_G Ω l false mX12_goAll d 0 0 Φ 0 0 86 ([some (.ref 91), some (.int x1), some (.int x2), none, none], [], (mk I J)))))) :
    mj_G Ω l false mX12_goAll d 0 0 Φ 0 0 4 ([some (.ref 91), some (.int x1), some (.int x2), none, none], [], mk I J) := mj_blk (μ := mX12_goAll) (P := pX12_goAll_4) (cut := cutX12_goAll) (cs := csX12_goAll) dX12_goAll_4 csX12_goAll_ok hd 11 4 _ h
def pX12_goAll_17 : List (Nat × Instr × Nat) := [(4, .iload_n 2, 1), (17, .iload 4, 2), (19, .aload_n 0, 1), (20, .getfield 255, 3), (23, .if_icmp .ge 46, 3), (26, .iload_n 1, 1), (27, .iload 4, 2), (29, .invokestatic 225, 3), (32, .ifCond .ne 29, 3), (35, .iload_n 3, 1), (36, .iconst (-1), 1), (37, .if_icmp .eq 19, 3), (40, .aload_n 0, 1), (41, .getfield 63, 3), (44, .iload 4, 2), (46, .iaload, 1), (47, .aload_n 0, 1), (48, .getfield 63, 3), (51, .iload_n 3, 1), (52, .iaload, 1), (53, .if_icmp .ge 8, 3), (56, .iload 4, 2), (58, .goto 4, 3), (61, .iload_n 3, 1), (62, .istore_n 3, 1), (63, .iinc 4 1, 3), (66, .goto (-49), 3), (69, .iload_n 1, 1), (70, .iconst 1, 1), (71, .iload_n 3, 1), (72, .ishl, 1), (73, .ior, 1), (74, .istore_n 1, 1), (75, .aload_n 0, 1), (76, .iload_n 3, 1), (77, .invokevirtual 346, 3), (80, .iinc 2 1, 3), (83, .goto (-79), 3)]
set_option maxRecDepth 100000 in
theorem dX12_goAll_17 : mj_pd cX12_goAll pX12_goAll_17 := mj_pdB (by decide +kernel)
set_option maxRecDepth 100000 in
set_option maxHeartbeats 4000000 in
theorem bX12_goAll_17 {Ω : mj_Om} {l : Launch} {d : Nat} {Φ : Option Value → mj_M → Prop} (hd : 4 ≤ d) (x1 : Int32) (x2 : Int32) (x3 : Int32) (x4 : Int32) (I : Nat → Nat → Int32) (J : Nat → Nat → Int64)
    (h : ((if x4 < (I 91 22) then (if ((x1 >>> (x4 &&& 31)) &&& (1 : Int32)) = (1 : Int32) then (mj_G Ω l false mX12_goAll d 0 0 Φ 0 0 17 ([some (.ref 91), some (.int x1), some (.int x2), some (.int x3), some (.int (x4 + (1 : Int32)))], [], (mk I J))) else (if x3 = (-1 : Int32) then (mj_G Ω l false mX12_goAll d 0 0 Φ 0 0 17 ([some (.ref 91), some (.int x1), some (.int x2), some (.int x4), some (.int (x4 + (1 : Int32)))], [], (mk I J))) else (mj_gd (mj_inB x4 8) (mj_gd (mj_inB x3 8) (if (I 108 (x4).toNatClampNeg) < (I 108 (x3).toNatClampNeg) then (mj_G Ω l false mX12_goAll d 0 0 Φ 0 0 17 ([some (.ref 91), some (.int x1), some (.int x2), some (.int x4), some (.int (x4 + (1 : Int32)))], [], (mk I J))) else (mj_G Ω l false mX12_goAll d 0 0 Φ 0 0 17 ([some (.ref 91), some (.int x1), some (.int x2), some (.int x3), some (.int (x4 + (1 : Int32)))], [], (mk I J)))))))) else ((91 = 91 ∧ mj_isk (mk I J)) ∧ (∃ b262 : Nat, x3 = nI b262 ∧ ((okM I ∧ b262 < nM I ∧ spB (VM I) b262 ∧ (I 107 b262 = 0 ∨ I 107 b262 = 1)) ∧ (∀ I263 : Nat → Nat → Int32, (VM I263 = sailV (nM I) (I 107) (VM I) b262 ∧ fr (fun c k => c = 106 ∧ k < 48) I I263) → (mj_G Ω l false mX12_goAll d 0 0 Φ 0 0 4 ([some (.ref 91), some (.int (x1 ||| ((1 : Int32) <<< (x3 &&& 31)))), some (.int (x2 + (1 : Int32))), none, none], [], (mk I263 J)))))))))) :
    mj_G Ω l false mX12_goAll d 0 0 Φ 0 0 17 ([some (.ref 91), some (.int x1), some (.int x2), some (.int x3), some (.int x4)], [], mk I J) := mj_blk (μ := mX12_goAll) (P := pX12_goAll_17) (cut := cutX12_goAll) (cs := csX12_goAll) dX12_goAll_17 csX12_goAll_ok hd 39 17 _ h
def pX12_goAll_86 : List (Nat × Instr × Nat) := [(86, .aload_n 0, 1), (87, .getfield 52, 3), (90, .bipush 48, 2), (92, .dup2, 1), (93, .iaload, 1), (94, .iconst 1, 1), (95, .iadd, 1), (96, .iastore, 1), (97, .aload_n 0, 1)]
set_option maxRecDepth 100000 in
theorem dX12_goAll_86 : mj_pd cX12_goAll pX12_goAll_86 := mj_pdB (by decide +kernel)
set_option maxRecDepth 100000 in
set_option maxHeartbeats 4000000 in
theorem bX12_goAll_86 {Ω : mj_Om} {l : Launch} {d : Nat} {Φ : Option Value → mj_M → Prop} (hd : 4 ≤ d) (x1 : Int32) (x2 : Int32) (I : Nat → Nat → Int32) (J : Nat → Nat → Int64)
    (h : ((mj_G Ω l false mX12_goAll d 0 0 Φ 0 0 97 ([some (.ref 91), some (.int x1), some (.int x2), none, none], [], (mk (mj_ui I 106 48 ((I 106 48) + (1 : Int32))) J))))) :
    mj_G Ω l false mX12_goAll d 0 0 Φ 0 0 86 ([some (.ref 91), some (.int x1), some (.int x2), none, none], [], mk I J) := mj_blk (μ := mX12_goAll) (P := pX12_goAll_86) (cut := cutX12_goAll) (cs := csX12_goAll) dX12_goAll_86 csX12_goAll_ok hd 10 86 _ h
def pX12_goAll_97 : List (Nat × Instr × Nat) := [(97, .aload_n 0, 1), (98, .getfield 46, 3), (101, .iconst 3, 1), (102, .iaload, 1), (103, .ifCond .eq 50, 3), (106, .aload_n 0, 1), (107, .getfield 52, 3), (110, .bipush 48, 2), (112, .iaload, 1), (113, .aload_n 0, 1), (114, .getfield 46, 3), (117, .iconst 3, 1), (118, .iaload, 1), (119, .irem, 1), (120, .ifCond .ne 33, 3), (123, .iconst 0, 1), (124, .istore_n 2, 1), (125, .iload_n 2, 1), (153, .aload_n 0, 1)]
set_option maxRecDepth 100000 in
theorem dX12_goAll_97 : mj_pd cX12_goAll pX12_goAll_97 := mj_pdB (by decide +kernel)
set_option maxRecDepth 100000 in
set_option maxHeartbeats 4000000 in
theorem bX12_goAll_97 {Ω : mj_Om} {l : Launch} {d : Nat} {Φ : Option Value → mj_M → Prop} (hd : 4 ≤ d) (x1 : Int32) (x2 : Int32) (I : Nat → Nat → Int32) (J : Nat → Nat → Int64)
    (h : ((if (I 104 3) = (0 : Int32) then (mj_G Ω l false mX12_goAll d 0 0 Φ 0 0 153 ([some (.ref 91), some (.int x1), some (.int x2), none, none], [], (mk I J))) else (mj_gd (!decide ((I 104 3) = 0)) (if ((I 106 48) - (I 106 48) / (I 104 3) * (I 104 3)) = (0 : Int32) then (mj_G Ω l false mX12_goAll d 0 0 Φ 0 0 125 ([some (.ref 91), some (.int x1), some (.int (0 : Int32)), none, none], [], (mk I J))) else (mj_G Ω l false mX12_goAll d 0 0 Φ 0 0 153 ([some (.ref 91), some (.int x1), some (.int x2), none, none], [], (mk I J)))))))) :
    mj_G Ω l false mX12_goAll d 0 0 Φ 0 0 97 ([some (.ref 91), some (.int x1), some (.int x2), none, none], [], mk I J) := mj_blk (μ := mX12_goAll) (P := pX12_goAll_97) (cut := cutX12_goAll) (cs := csX12_goAll) dX12_goAll_97 csX12_goAll_ok hd 20 97 _ h
def pX12_goAll_125 : List (Nat × Instr × Nat) := [(125, .iload_n 2, 1), (126, .aload_n 0, 1), (127, .getfield 255, 3), (130, .if_icmp .ge 23, 3), (133, .aload_n 0, 1), (134, .iload_n 2, 1), (135, .iconst 1, 1), (136, .aload_n 0, 1), (137, .iload_n 2, 1), (138, .iconst 1, 1), (139, .invokevirtual 283, 3), (142, .iconst 1, 1), (143, .isub, 1), (144, .invokevirtual 274, 3), (147, .iinc 2 1, 3), (150, .goto (-25), 3), (153, .aload_n 0, 1)]
set_option maxRecDepth 100000 in
theorem dX12_goAll_125 : mj_pd cX12_goAll pX12_goAll_125 := mj_pdB (by decide +kernel)
set_option maxRecDepth 100000 in
set_option maxHeartbeats 4000000 in
theorem bX12_goAll_125 {Ω : mj_Om} {l : Launch} {d : Nat} {Φ : Option Value → mj_M → Prop} (hd : 4 ≤ d) (x1 : Int32) (x2 : Int32) (I : Nat → Nat → Int32) (J : Nat → Nat → Int64)
    (h : ((if x2 < (I 91 22) then (mj_gd (mj_inB (((6 : Int32) * x2) + (1 : Int32)) 49) (mj_gd (mj_inB (((6 : Int32) * x2) + (1 : Int32)) 49) (mj_G Ω l false mX12_goAll d 0 0 Φ 0 0 125 ([some (.ref 91), some (.int x1), some (.int (x2 + (1 : Int32))), none, none], [], (mk (mj_ui I 106 ((((6 : Int32) * x2) + (1 : Int32))).toNatClampNeg ((I 106 ((((6 : Int32) * x2) + (1 : Int32))).toNatClampNeg) - (1 : Int32))) J))))) else (mj_G Ω l false mX12_goAll d 0 0 Φ 0 0 153 ([some (.ref 91), some (.int x1), some (.int x2), none, none], [], (mk I J)))))) :
    mj_G Ω l false mX12_goAll d 0 0 Φ 0 0 125 ([some (.ref 91), some (.int x1), some (.int x2), none, none], [], mk I J) := mj_blk (μ := mX12_goAll) (P := pX12_goAll_125) (cut := cutX12_goAll) (cs := csX12_goAll) dX12_goAll_125 csX12_goAll_ok hd 18 125 _ h
def pX12_goAll_153 : List (Nat × Instr × Nat) := [(153, .aload_n 0, 1), (154, .getfield 46, 3), (157, .iconst 4, 1), (158, .iaload, 1), (159, .ifCond .eq 24, 3), (162, .aload_n 0, 1), (163, .getfield 52, 3), (166, .bipush 48, 2), (168, .iaload, 1), (169, .aload_n 0, 1), (170, .getfield 46, 3), (173, .iconst 4, 1), (174, .iaload, 1), (175, .irem, 1), (176, .ifCond .ne 7, 3), (179, .aload_n 0, 1), (180, .invokevirtual 349, 3), (183, .iconst 0, 1)]
set_option maxRecDepth 100000 in
theorem dX12_goAll_153 : mj_pd cX12_goAll pX12_goAll_153 := mj_pdB (by decide +kernel)
set_option maxRecDepth 100000 in
set_option maxHeartbeats 4000000 in
theorem bX12_goAll_153 {Ω : mj_Om} {l : Launch} {d : Nat} {Φ : Option Value → mj_M → Prop} (hd : 4 ≤ d) (x1 : Int32) (x2 : Int32) (I : Nat → Nat → Int32) (J : Nat → Nat → Int64)
    (h : ((if (I 104 4) = (0 : Int32) then (mj_G Ω l false mX12_goAll d 0 0 Φ 0 0 183 ([some (.ref 91), some (.int x1), some (.int x2), none, none], [], (mk I J))) else (mj_gd (!decide ((I 104 4) = 0)) (if ((I 106 48) - (I 106 48) / (I 104 4) * (I 104 4)) = (0 : Int32) then ((91 = 91 ∧ mj_isk (mk I J)) ∧ ((okM I ∧ lineOk (lv7 (I 104))) ∧ (∀ I265 : Nat → Nat → Int32, (VM I265 = driftC (nM I) ((I 104 0).toNatClampNeg - 1) (VM I) ∧ fr (fun c k => c = 106 ∧ k < 48) I I265) → (mj_G Ω l false mX12_goAll d 0 0 Φ 0 0 183 ([some (.ref 91), some (.int x1), some (.int x2), none, none], [], (mk I265 J)))))) else (mj_G Ω l false mX12_goAll d 0 0 Φ 0 0 183 ([some (.ref 91), some (.int x1), some (.int x2), none, none], [], (mk I J)))))))) :
    mj_G Ω l false mX12_goAll d 0 0 Φ 0 0 153 ([some (.ref 91), some (.int x1), some (.int x2), none, none], [], mk I J) := mj_blk (μ := mX12_goAll) (P := pX12_goAll_153) (cut := cutX12_goAll) (cs := csX12_goAll) dX12_goAll_153 csX12_goAll_ok hd 19 153 _ h
def pX12_goAll_183 : List (Nat × Instr × Nat) := [(183, .iconst 0, 1), (184, .istore_n 2, 1), (185, .iload_n 2, 1)]
set_option maxRecDepth 100000 in
theorem dX12_goAll_183 : mj_pd cX12_goAll pX12_goAll_183 := mj_pdB (by decide +kernel)
set_option maxRecDepth 100000 in
set_option maxHeartbeats 4000000 in
theorem bX12_goAll_183 {Ω : mj_Om} {l : Launch} {d : Nat} {Φ : Option Value → mj_M → Prop} (hd : 4 ≤ d) (x1 : Int32) (x2 : Int32) (I : Nat → Nat → Int32) (J : Nat → Nat → Int64)
    (h : ((mj_G Ω l false mX12_goAll d 0 0 Φ 0 0 185 ([some (.ref 91), some (.int x1), some (.int (0 : Int32)), none, none], [], (mk I J))))) :
    mj_G Ω l false mX12_goAll d 0 0 Φ 0 0 183 ([some (.ref 91), some (.int x1), some (.int x2), none, none], [], mk I J) := mj_blk (μ := mX12_goAll) (P := pX12_goAll_183) (cut := cutX12_goAll) (cs := csX12_goAll) dX12_goAll_183 csX12_goAll_ok hd 4 183 _ h
def pX12_goAll_185 : List (Nat × Instr × Nat) := [(185, .iload_n 2, 1), (186, .aload_n 0, 1), (187, .getfield 255, 3), (190, .if_icmp .ge 43, 3), (193, .aload_n 0, 1), (194, .iload_n 2, 1), (195, .iconst 5, 1), (196, .aload_n 0, 1), (197, .iload_n 2, 1), (198, .iconst 1, 1), (199, .invokevirtual 283, 3), (202, .ifCond .ge 16, 3), (205, .aload_n 0, 1), (206, .invokevirtual 323, 3), (209, .bipush 9, 2), (211, .if_icmp .gt 7, 3), (214, .iconst 1, 1), (215, .goto 9, 3), (218, .aload_n 0, 1), (219, .iload_n 2, 1), (220, .iconst 5, 1), (221, .invokevirtual 283, 3), (224, .invokevirtual 274, 3), (227, .iinc 2 1, 3), (230, .goto (-45), 3), (233, .return_, 1)]
set_option maxRecDepth 100000 in
theorem dX12_goAll_185 : mj_pd cX12_goAll pX12_goAll_185 := mj_pdB (by decide +kernel)
set_option maxRecDepth 100000 in
set_option maxHeartbeats 4000000 in
theorem bX12_goAll_185 {Ω : mj_Om} {l : Launch} {d : Nat} {Φ : Option Value → mj_M → Prop} (hd : 4 ≤ d) (x1 : Int32) (x2 : Int32) (I : Nat → Nat → Int32) (J : Nat → Nat → Int64)
    (h : ((if x2 < (I 91 22) then (mj_gd (mj_inB (((6 : Int32) * x2) + (1 : Int32)) 49) (if (I 106 ((((6 : Int32) * x2) + (1 : Int32))).toNatClampNeg) < (0 : Int32) then (if (9 : Int32) < ((I 104 5) - (I 106 48)) then (mj_gd (mj_inB (((6 : Int32) * x2) + (5 : Int32)) 49) (mj_gd (mj_inB (((6 : Int32) * x2) + (5 : Int32)) 49) (mj_G Ω l false mX12_goAll d 0 0 Φ 0 0 185 ([some (.ref 91), some (.int x1), some (.int (x2 + (1 : Int32))), none, none], [], (mk (mj_ui I 106 ((((6 : Int32) * x2) + (5 : Int32))).toNatClampNeg (I 106 ((((6 : Int32) * x2) + (5 : Int32))).toNatClampNeg)) J))))) else (mj_gd (mj_inB (((6 : Int32) * x2) + (5 : Int32)) 49) (mj_G Ω l false mX12_goAll d 0 0 Φ 0 0 185 ([some (.ref 91), some (.int x1), some (.int (x2 + (1 : Int32))), none, none], [], (mk (mj_ui I 106 ((((6 : Int32) * x2) + (5 : Int32))).toNatClampNeg (1 : Int32)) J))))) else (mj_gd (mj_inB (((6 : Int32) * x2) + (5 : Int32)) 49) (mj_gd (mj_inB (((6 : Int32) * x2) + (5 : Int32)) 49) (mj_G Ω l false mX12_goAll d 0 0 Φ 0 0 185 ([some (.ref 91), some (.int x1), some (.int (x2 + (1 : Int32))), none, none], [], (mk (mj_ui I 106 ((((6 : Int32) * x2) + (5 : Int32))).toNatClampNeg (I 106 ((((6 : Int32) * x2) + (5 : Int32))).toNatClampNeg)) J))))))) else (Φ none (mk I J))))) :
    mj_G Ω l false mX12_goAll d 0 0 Φ 0 0 185 ([some (.ref 91), some (.int x1), some (.int x2), none, none], [], mk I J) := mj_blk (μ := mX12_goAll) (P := pX12_goAll_185) (cut := cutX12_goAll) (cs := csX12_goAll) dX12_goAll_185 csX12_goAll_ok hd 27 185 _ h
def tX12_goAll : mj_PT := fun as M Φ => match as with
  | [.ref this] => ((this = 91 ∧ mj_isk M) ∧ ((okM M.2.2.1 ∧ lineOk (lv7 (M.2.2.1 104)) ∧ (∀ b, b < nM M.2.2.1 → (M.2.2.1 107 b = 0 ∨ M.2.2.1 107 b = 1)) ∧ (∀ b, b < nM M.2.2.1 → spB (VM M.2.2.1) b)) ∧ (∀ I1 : Nat → Nat → Int32, (VM I1 = moveV (nM M.2.2.1) (lv7 (M.2.2.1 104)) (M.2.2.1 107) (M.2.2.1 108) (VM M.2.2.1) (M.2.2.1 106 48) ∧ I1 106 48 = M.2.2.1 106 48 + 1 ∧ fr (fun c k => c = 106 ∧ k < 49) M.2.2.1 I1) → Φ none (M.1, M.2.1, I1, M.2.2.2))))
  | _ => False
set_option maxHeartbeats 8000000 in
theorem mnX12_goAll {Ω : mj_Om} {l : Launch} {d : Nat} {Φ : Option Value → mj_M → Prop} (hd : 4 ≤ d) (I : Nat → Nat → Int32) (J : Nat → Nat → Int64) (hp : okM I ∧ lineOk (lv7 (I 104)) ∧ (∀ b, b < nM I → (I 107 b = 0 ∨ I 107 b = 1)) ∧ (∀ b, b < nM I → spB (VM I) b)) (h : ∀ I1 : Nat → Nat → Int32, (VM I1 = moveV (nM I) (lv7 (I 104)) (I 107) (I 108) (VM I) (I 106 48) ∧ I1 106 48 = I 106 48 + 1 ∧ fr (fun c k => c = 106 ∧ k < 49) I I1) → Φ none (mk I1 J)) : mj_Met Ω l false mX12_goAll d 0 0 [.ref 91] (mk I J) Φ := by
  refine inX12_goAll hd I J ?_
  obtain ⟨⟨hc, hn⟩, hl, h107, hsp⟩ := hp
  have hok' : ∀ I' : Nat → Nat → Int32, fr (fun c k => c = 106 ∧ k < 49) I I' → okM I' ∧ nM I' = nM I ∧ I' 91 22 = nI (nM I) := fun I' hfr => mM_fr hfr (by (try dsimp only); omega) ⟨hc, hn⟩
  have hC : ∀ (I' : Nat → Nat → Int32) (j : Nat), fr (fun c k => c = 106 ∧ k < 49) I I' → j < 7 → I' 104 j = lv7 (I 104) j := by
    intro I' j hfr hj
    rw [hfr _ _ (by (try dsimp only); omega), lv7_at hj]
  have k183 : ∀ (x1 x2 : Int32) (I' : Nat → Nat → Int32), fr (fun c k => c = 106 ∧ k < 49) I I' → I' 106 48 = I 106 48 + 1 → VM I' = driftM (nM I) (lv7 (I 104)) (I 106 48 + 1) (tideM (nM I) (lv7 (I 104)) (I 106 48 + 1) (goN (nM I) (I 107) (I 108) (nM I) (VM I))) → mj_G Ω l false mX12_goAll d 0 0 Φ 0 0 183 ([some (.ref 91), some (.int x1), some (.int x2), none, none], [], mk I' J) := by
    intro x1 x2 I' hfr h9 hV
    refine bX12_goAll_183 hd x1 x2 I' J ?_
    refine lp_inv (σ := Nat → Nat → Int32) (n := nM I) (G := fun i I3 => mj_G Ω l false mX12_goAll d 0 0 Φ 0 0 185 ([some (.ref 91), some (.int x1), some (.int (nI i)), none, none], [], mk I3 J)) (fun i I3 => VM I3 = cif (9 < lv7 (I 104) 5 - (I 106 48 + 1)) (VM I') (earlyV i (VM I')) ∧ I3 106 48 = I 106 48 + 1 ∧ fr (fun c k => c = 106 ∧ k < 49) I I3) (fun i I3 hi hI hk => ?_) (fun I3 hI => ?_) (nM I) 0 I' (by omega) ⟨?_, h9, hfr⟩
    · refine bX12_goAll_185 hd x1 (nI i) I3 J ?_
      obtain ⟨hV3, h93, hfr3⟩ := hI
      obtain ⟨ho, hn2, h82⟩ := hok' I3 hfr3
      rw [h82, if_pos (by rw [jn_lt (by omega) (by omega)]; exact hi), jn_succ]
      simp (disch := omega) only [jn_in, jn_cl, gd_dec, n6_1, n6_5]
      rw [hC I3 5 hfr3 (by decide), h93]
      have e1 := VM_1 (I := I3) (b := i) (by omega)
      have e7 := VM_7 (I := I3) (b := i) (by omega)
      have same : VM (mj_ui I3 106 (6 * i + 5) (I3 106 (6 * i + 5))) = VM I3 := by rw [VMu_7 (by omega), ← e7, vup_id]
      have h48 : ∀ y : Int32, (mj_ui I3 106 (6 * i + 5) y) 106 48 = I 106 48 + 1 := fun y => by rw [ui_k (by omega)]; exact h93
      rw [← e1]
      by_cases q : 9 < lv7 (I 104) 5 - (I 106 48 + 1)
      · rw [cif_t q] at hV3
        simp only [if_pos q]
        have go := hk _ ⟨by rw [cif_t q, same, hV3], h48 _, fr_ui hfr3 ⟨rfl, by omega⟩⟩
        split <;> exact go
      · rw [cif_f q] at hV3
        simp only [if_neg q]
        split
        · rename_i z
          refine hk _ ⟨?_, h48 _, fr_ui hfr3 ⟨rfl, by omega⟩⟩
          rw [hV3, earlyV_1] at z
          rw [cif_f q, VMu_7 (by omega), hV3, earlyV_s, if_pos z]
        · rename_i z
          refine hk _ ⟨?_, h48 _, fr_ui hfr3 ⟨rfl, by omega⟩⟩
          rw [hV3, earlyV_1] at z
          rw [cif_f q, same, hV3, earlyV_s, if_neg z]
    · refine bX12_goAll_185 hd x1 (nI (nM I)) I3 J ?_
      obtain ⟨hV3, h93, hfr3⟩ := hI
      obtain ⟨ho, hn2, h82⟩ := hok' I3 hfr3
      rw [h82, if_neg (by rw [jn_lt (by omega) (by omega)]; omega)]
      exact h I3 ⟨by unfold moveV earlyM; rw [hV3, hV], h93, hfr3⟩
    · rw [earlyV_0]
      by_cases q : 9 < lv7 (I 104) 5 - (I 106 48 + 1)
      · rw [cif_t q]
      · rw [cif_f q]
  have k153 : ∀ (x1 x2 : Int32) (I' : Nat → Nat → Int32), fr (fun c k => c = 106 ∧ k < 49) I I' → I' 106 48 = I 106 48 + 1 → VM I' = tideM (nM I) (lv7 (I 104)) (I 106 48 + 1) (goN (nM I) (I 107) (I 108) (nM I) (VM I)) → mj_G Ω l false mX12_goAll d 0 0 Φ 0 0 153 ([some (.ref 91), some (.int x1), some (.int x2), none, none], [], mk I' J) := by
    intro x1 x2 I' hfr h9 hV
    refine bX12_goAll_153 hd x1 x2 I' J ?_
    rw [hC I' 4 hfr (by decide), h9]
    obtain ⟨ho, hn2, -⟩ := hok' I' hfr
    refine cm_if2 (fun q => ?_) (fun q => k183 x1 x2 I' hfr h9 (by unfold driftM; rw [cif_f q, hV]))
    have hlv : lv7 (I' 104) = lv7 (I 104) := lv7_fr (fun k => hfr 104 k (by (try dsimp only); omega))
    refine ⟨⟨by trivial, mj_isk_mk _ _⟩, ⟨ho, by rw [hlv]; exact hl⟩, fun I35 h35 => k183 x1 x2 I35 (fun a b w => ?_) (by rw [h35.2 106 48 (by (try dsimp only); omega), h9]) ?_⟩
    · try dsimp only at w
      rw [h35.2 a b (by (try dsimp only); omega), hfr a b w]
    · unfold driftM
      rw [cif_t q, h35.1, hn2, hV, hC I' 0 hfr (by decide)]
  have k86 : ∀ (x1 x2 : Int32) (I' : Nat → Nat → Int32), fr (fun c k => c = 106 ∧ k < 48) I I' → VM I' = goN (nM I) (I 107) (I 108) (nM I) (VM I) → mj_G Ω l false mX12_goAll d 0 0 Φ 0 0 86 ([some (.ref 91), some (.int x1), some (.int x2), none, none], [], mk I' J) := by
    intro x1 x2 I' hfr hV
    refine bX12_goAll_86 hd x1 x2 I' J ?_
    rw [hfr 106 48 (by (try dsimp only); omega)]
    have hfr1 : fr (fun c k => c = 106 ∧ k < 49) I (mj_ui I' 106 48 (I 106 48 + 1)) := fr_ui (fr_mo hfr (fun a b w => ⟨w.1, by have := w.2; omega⟩)) ⟨rfl, by decide⟩
    have hn2 : nM I' = nM I := (fr_M hfr (by (try dsimp only); omega)).2
    have hV1 : VM (mj_ui I' 106 48 (I 106 48 + 1)) = goN (nM I) (I 107) (I 108) (nM I) (VM I) := by rw [VM_us (by omega)]; exact hV
    have h91 : (mj_ui I' 106 48 (I 106 48 + 1)) 106 48 = I 106 48 + 1 := ui_s
    generalize mj_ui I' 106 48 (I 106 48 + 1) = I2 at hfr1 hV1 h91 ⊢
    refine bX12_goAll_97 hd x1 x2 I2 J ?_
    rw [hC I2 3 hfr1 (by decide), h91]
    refine cm_if2 (fun q => ?_) (fun q => k153 x1 x2 I2 hfr1 h91 (by unfold tideM; rw [cif_f q, hV1]))
    refine lp_inv (σ := Nat → Nat → Int32) (n := nM I) (G := fun i I3 => mj_G Ω l false mX12_goAll d 0 0 Φ 0 0 125 ([some (.ref 91), some (.int x1), some (.int (nI i)), none, none], [], mk I3 J)) (fun i I3 => VM I3 = tideV i (VM I2) ∧ fr (fun c k => c = 106 ∧ k < 48) I2 I3) (fun i I3 hi hI hk => ?_) (fun I3 hI => ?_) (nM I) 0 I2 (by omega) ⟨(tideV_0 _).symm, fr_rf⟩
    · refine bX12_goAll_125 hd x1 (nI i) I3 J ?_
      obtain ⟨hV3, hfr3⟩ := hI
      have hfrS : fr (fun c k => c = 106 ∧ k < 49) I I3 := fr_tr hfr1 (fr_mo hfr3 (fun a b w => ⟨w.1, by have := w.2; omega⟩))
      obtain ⟨-, hn3, h82⟩ := hok' I3 hfrS
      rw [h82, if_pos (by rw [jn_lt (by omega) (by omega)]; exact hi)]
      simp (disch := omega) only [jn_in, jn_cl, gd_dec, jn_succ, n6_1]
      refine hk _ ⟨?_, fr_ui hfr3 ⟨rfl, by omega⟩⟩
      rw [VMu_1 (by omega), ← VM_1 (I := I3) (b := i) (by omega), hV3, tideV_s, tideV_1]
    · refine bX12_goAll_125 hd x1 (nI (nM I)) I3 J ?_
      obtain ⟨hV3, hfr3⟩ := hI
      have hfrS : fr (fun c k => c = 106 ∧ k < 49) I I3 := fr_tr hfr1 (fr_mo hfr3 (fun a b w => ⟨w.1, by have := w.2; omega⟩))
      obtain ⟨-, hn3, h82⟩ := hok' I3 hfrS
      rw [h82, if_neg (by rw [jn_lt (by omega) (by omega)]; omega)]
      exact k153 _ _ I3 hfrS (by rw [hfr3 106 48 (by (try dsimp only); omega), h91]) (by unfold tideM; rw [cif_t q, hV3, hV1])
  refine lp_inv (σ := Int32 × (Nat → Nat → Int32)) (n := nM I) (G := fun i p => mj_G Ω l false mX12_goAll d 0 0 Φ 0 0 4 ([some (.ref 91), some (.int (p.1)), some (.int (nI i)), none, none], [], mk p.2 J)) (fun i p => VM p.2 = goN (nM I) (I 107) (I 108) i (VM I) ∧ (∀ b, b < nM I → (p.1.toBitVec.getLsbD b = true ↔ rk (nM I) (I 108) b < i)) ∧ (∀ b, b < nM I → spB (VM p.2) b) ∧ fr (fun c k => c = 106 ∧ k < 48) I p.2) (fun i p hi hI hk => ?_) (fun p hI => ?_) (nM I) 0 (0, I) (by omega) ⟨rfl, fun b hb => by simp, hsp, fr_rf⟩
  · obtain ⟨dn, I'⟩ := p
    obtain ⟨hV, hdn, hsp', hfr⟩ := hI
    simp only at hV hdn hsp' hfr ⊢
    refine bX12_goAll_4 hd dn (nI i) I' J ?_
    have hfrS : fr (fun c k => c = 106 ∧ k < 49) I I' := fr_mo hfr (fun a b w => ⟨w.1, by have := w.2; omega⟩)
    obtain ⟨ho, hn2, h82⟩ := hok' I' hfrS
    rw [h82, if_pos (by rw [jn_lt (by omega) (by omega)]; exact hi)]
    have e108 : ∀ b, I' 108 b = I 108 b := fun b => hfr 108 b (by (try dsimp only); omega)
    have inner : ∀ (k b : Nat) (x3 : Int32), b + k = nM I → ((x3 = -1 ∧ ∀ j, j < b → rk (nM I) (I 108) j < i) ∨ (∃ nx, nx < b ∧ x3 = nI nx ∧ ¬ rk (nM I) (I 108) nx < i ∧ ∀ j, j < b → ¬ rk (nM I) (I 108) j < i → j = nx ∨ lx (I 108) nx j)) → mj_G Ω l false mX12_goAll d 0 0 Φ 0 0 17 ([some (.ref 91), some (.int dn), some (.int (nI i)), some (.int x3), some (.int (nI b))], [], mk I' J) := by
      intro k
      induction k with
      | zero =>
        intro b x3 hb hx
        obtain rfl : b = nM I := by omega
        refine bX12_goAll_17 hd dn (nI i) x3 (nI (nM I)) I' J ?_
        rw [h82, if_neg (by rw [jn_lt (by omega) (by omega)]; omega)]
        rcases hx with ⟨-, hall⟩ | ⟨nx, hnx, rfl, hnd, hmin⟩
        · exfalso
          obtain ⟨g1, g2⟩ := ordN_sp (B := I 108) hi
          have := hall _ g1
          omega
        · have ho2 := ord_min hnx hi hnd hmin
          refine ⟨⟨by trivial, mj_isk_mk _ _⟩, nx, rfl, ⟨ho, by omega, hsp' nx hnx, by rw [hfr 107 nx (by (try dsimp only); omega)]; exact h107 nx hnx⟩, fun I5 h5 => ?_⟩
          rw [jn_succ]
          have e107 : I' 107 = I 107 := by funext z; exact hfr 107 z (by (try dsimp only); omega)
          refine hk (_, I5) ⟨?_, fun b hb => ?_, fun b hb => ?_, fr_tr hfr h5.2⟩
          · rw [goN, ho2, ← hV, h5.1, hn2, e107]
          · simp only
            rw [or_b _ (by omega) (by omega), Bool.or_eq_true, hdn b hb, decide_eq_true_eq]
            have hrk : rk (nM I) (I 108) nx = i := by rw [← ho2]; exact (ordN_sp (B := I 108) hi).2
            refine ⟨fun w => ?_, fun w => ?_⟩
            · rcases w with w | w
              · omega
              · rw [w, hrk]; omega
            · by_cases y : rk (nM I) (I 108) b < i
              · exact Or.inl y
              · exact Or.inr (rk_inj (B := I 108) hb hnx (by omega))
          · simp only
            rw [h5.1, e107]
            exact spB_sail (hsp' b hb)
      | succ k ih =>
        intro b x3 hb hx
        refine bX12_goAll_17 hd dn (nI i) x3 (nI b) I' J ?_
        rw [h82, if_pos (by rw [jn_lt (by omega) (by omega)]; omega), jn_succ]
        by_cases hd2 : rk (nM I) (I 108) b < i
        · rw [if_pos (by rw [has_b dn (by omega)]; exact (hdn b (by omega)).mpr hd2)]
          refine ih (b + 1) x3 (by omega) ?_
          rcases hx with ⟨h1, h2⟩ | ⟨nx, h1, h2, h3, h4⟩
          · refine Or.inl ⟨h1, fun j hj => ?_⟩
            by_cases y : j = b
            · rw [y]; exact hd2
            · exact h2 j (by omega)
          · refine Or.inr ⟨nx, by omega, h2, h3, fun j hj hnj => ?_⟩
            by_cases y : j = b
            · rw [y] at hnj; exact absurd hd2 hnj
            · exact h4 j (by omega) hnj
        · rw [if_neg (by rw [has_b dn (by omega)]; exact fun w => hd2 ((hdn b (by omega)).mp w))]
          rcases hx with ⟨h1, h2⟩ | ⟨nx, h1, h2, h3, h4⟩
          · rw [if_pos h1]
            refine ih (b + 1) (nI b) (by omega) (Or.inr ⟨b, by omega, rfl, hd2, fun j hj hnj => ?_⟩)
            by_cases y : j = b
            · exact Or.inl y
            · exact absurd (h2 j (by omega)) hnj
          · rw [h2, if_neg (by intro w; rw [← Int32.toInt_inj, jn_toInt (by omega)] at w; have : (-1 : Int32).toInt = -1 := rfl; omega)]
            simp (disch := omega) only [jn_in, jn_cl, gd_dec, e108]
            by_cases y : I 108 b < I 108 nx
            · rw [if_pos y]
              refine ih (b + 1) (nI b) (by omega) (Or.inr ⟨b, by omega, rfl, hd2, fun j hj hnj => ?_⟩)
              by_cases y2 : j = b
              · exact Or.inl y2
              · refine Or.inr ?_
                rcases h4 j (by omega) hnj with w | w
                · rw [w]; exact Or.inl y
                · exact lx_tr (Or.inl y) w
            · rw [if_neg y]
              refine ih (b + 1) (nI nx) (by omega) (Or.inr ⟨nx, by omega, rfl, h3, fun j hj hnj => ?_⟩)
              by_cases y2 : j = b
              · refine Or.inr ?_
                rw [y2, lx_iff]
                rw [Int32.lt_iff_toInt_lt] at y
                omega
              · exact h4 j (by omega) hnj
    exact inner (nM I) 0 (-1) (by omega) (Or.inl ⟨rfl, fun j hj => absurd hj (Nat.not_lt_zero j)⟩)
  · obtain ⟨dn, I'⟩ := p
    obtain ⟨hV, hdn, hsp', hfr⟩ := hI
    simp only at hV hdn hsp' hfr ⊢
    refine bX12_goAll_4 hd dn (nI (nM I)) I' J ?_
    obtain ⟨ho, hn2, h82⟩ := hok' I' (fr_mo hfr (fun a b w => ⟨w.1, by have := w.2; omega⟩))
    rw [h82, if_neg (by rw [jn_lt (by omega) (by omega)]; omega)]
    exact k86 _ _ I' hfr hV
theorem sdX12_goAll : mj_Sd mX12_goAll 4 tX12_goAll := by
  intro Ω l d hd as M Φ h
  unfold tX12_goAll at h
  split at h
  · rename_i z_this
    obtain ⟨⟨rfl, hM⟩, hp, h⟩ := h
    rw [mj_isk_of hM]
    exact mnX12_goAll hd _ _ hp (by
      rw [mj_isk_of hM] at h
      exact h)
  · exact h.elim
