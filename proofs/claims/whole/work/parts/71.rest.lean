/-! ===== thirds: the class's isRest (by program, wip/whole/p71.py) ===== -/
noncomputable def crd (n r t : Nat) : Nat := cnt (fun b => dg n r b = t) n
def rsB (n r : Nat) (W : Nat → Int32) (b t : Nat) : Prop := ¬ t = dg n r b → ¬ W (dg n r b) - 2 * (nI (crd n r (dg n r b)) - 1) < W t - 2 * nI (crd n r t)
def isRs (n r : Nat) (W : Nat → Int32) : Prop := ∀ b, b < n → ∀ t, t < 3 → rsB n r W b t
def csX9_isRest : List (Nat × Nat × Nat × mj_PT) := [(40, 0, 2, mj_rcv 9 tX9_spell)]
theorem csX9_isRest_ok : mj_Cs mX9_isRest 2 csX9_isRest := (mj_CsV (D' := 1) (ci := 9) (q := (RX9, TX9, 5)) sdX9_spell (Nat.le_of_ble_eq_true rfl) fX9_spell rfl rfl iX9_spell vX9_spell (by decide +kernel) l9_40 mj_Cs0)
def cutX9_isRest : List (Nat × List Bool) := [(7, [true, true, true, false, false, false]), (44, [true, true, true, true, true, true])]
set_option maxRecDepth 100000 in
set_option maxHeartbeats 4000000 in
theorem inX9_isRest {Ω : mj_Om} {l : Launch} {d : Nat} {Φ : Option Value → mj_M → Prop} (hd : 2 ≤ d) (r_ : Int32) (I : Nat → Nat → Int32) (J : Nat → Nat → Int64)
    (h : (((82 = 82 ∧ mj_isk (mk I J)) ∧ (∃ r953 : Nat, r_ = nI r953 ∧ (∃ n954 : Nat, ((n954 ≤ 5 ∧ I 82 3 = nI n954 ∧ r953 < 2147483648) ∧ (∀ I955 : Nat → Nat → Int32, ((∀ b, b < n954 → I955 83 b = nI (dg n954 r953 b)) ∧ (∀ t, t < 3 → I955 84 t = nI (cnt (fun b => dg n954 r953 b = t) n954)) ∧ fr (fun c _ => c = 83 ∨ c = 84) I I955) → (mj_G Ω l false mX9_isRest d 0 0 Φ 0 0 7 ([some (.ref 82), some (.int r_), some (.int (0 : Int32)), none, none, none], [], (mk I955 J)))))))))) :
    mj_Met Ω l false mX9_isRest d 0 0 [.ref 82, .int r_] (mk I J) Φ := mj_entry (by decide) rfl (fun h => (by cases h)) (Nat.le_of_ble_eq_true rfl) (mj_blk (μ := mX9_isRest) (P := pX9_isRest) (cut := cutX9_isRest) (cs := csX9_isRest) dX9_isRest csX9_isRest_ok hd 58 0 _ h)
set_option maxRecDepth 100000 in
set_option maxHeartbeats 4000000 in
theorem bX9_isRest_7 {Ω : mj_Om} {l : Launch} {d : Nat} {Φ : Option Value → mj_M → Prop} (hd : 2 ≤ d) (x1 : Int32) (x2 : Int32) (I : Nat → Nat → Int32) (J : Nat → Nat → Int64)
    (h : ((if x2 < (I 82 3) then (mj_gd (mj_inB x2 5) (mj_gd (mj_inB (I 83 (x2).toNatClampNeg) 3) (mj_gd (mj_inB (I 83 (x2).toNatClampNeg) 3) (mj_G Ω l false mX9_isRest d 0 0 Φ 0 0 44 ([some (.ref 82), some (.int x1), some (.int x2), some (.int (I 83 (x2).toNatClampNeg)), some (.int ((I 85 ((I 83 (x2).toNatClampNeg)).toNatClampNeg) - ((2 : Int32) * ((I 84 ((I 83 (x2).toNatClampNeg)).toNatClampNeg) - (1 : Int32))))), some (.int (0 : Int32))], [], (mk I J)))))) else (Φ (some (.int (1 : Int32))) (mk I J))))) :
    mj_G Ω l false mX9_isRest d 0 0 Φ 0 0 7 ([some (.ref 82), some (.int x1), some (.int x2), none, none, none], [], mk I J) := mj_blk (μ := mX9_isRest) (P := pX9_isRest) (cut := cutX9_isRest) (cs := csX9_isRest) dX9_isRest csX9_isRest_ok hd 58 7 _ h
set_option maxRecDepth 100000 in
set_option maxHeartbeats 4000000 in
theorem bX9_isRest_44 {Ω : mj_Om} {l : Launch} {d : Nat} {Φ : Option Value → mj_M → Prop} (hd : 2 ≤ d) (x1 : Int32) (x2 : Int32) (x3 : Int32) (x4 : Int32) (x5 : Int32) (I : Nat → Nat → Int32) (J : Nat → Nat → Int64)
    (h : ((if x5 < (3 : Int32) then (if x5 = x3 then (mj_G Ω l false mX9_isRest d 0 0 Φ 0 0 44 ([some (.ref 82), some (.int x1), some (.int x2), some (.int x3), some (.int x4), some (.int (x5 + (1 : Int32)))], [], (mk I J))) else (mj_gd (mj_inB x5 3) (mj_gd (mj_inB x5 3) (if x4 < ((I 85 (x5).toNatClampNeg) - ((2 : Int32) * (I 84 (x5).toNatClampNeg))) then (Φ (some (.int (0 : Int32))) (mk I J)) else (mj_G Ω l false mX9_isRest d 0 0 Φ 0 0 44 ([some (.ref 82), some (.int x1), some (.int x2), some (.int x3), some (.int x4), some (.int (x5 + (1 : Int32)))], [], (mk I J))))))) else (mj_G Ω l false mX9_isRest d 0 0 Φ 0 0 7 ([some (.ref 82), some (.int x1), some (.int (x2 + (1 : Int32))), none, none, none], [], (mk I J)))))) :
    mj_G Ω l false mX9_isRest d 0 0 Φ 0 0 44 ([some (.ref 82), some (.int x1), some (.int x2), some (.int x3), some (.int x4), some (.int x5)], [], mk I J) := mj_blk (μ := mX9_isRest) (P := pX9_isRest) (cut := cutX9_isRest) (cs := csX9_isRest) dX9_isRest csX9_isRest_ok hd 58 44 _ h
def tX9_isRest : mj_PT := fun as M Φ => match as with
  | [.ref this, .int r_] => ((this = 82 ∧ mj_isk M) ∧ (∃ r : Nat, r_ = nI r ∧ (∃ n : Nat, ((n ≤ 5 ∧ M.2.2.1 82 3 = nI n ∧ r < 2147483648) ∧ (∀ I1 : Nat → Nat → Int32, ((∀ b, b < n → I1 83 b = nI (dg n r b)) ∧ (∀ t, t < 3 → I1 84 t = nI (crd n r t)) ∧ fr (fun c _ => c = 83 ∨ c = 84) M.2.2.1 I1) → Φ (some (.int (b2i (isRs n r (fun t => M.2.2.1 85 t))))) (M.1, M.2.1, I1, M.2.2.2))))))
  | _ => False
set_option maxHeartbeats 8000000 in
theorem mnX9_isRest {Ω : mj_Om} {l : Launch} {d : Nat} {Φ : Option Value → mj_M → Prop} (hd : 2 ≤ d) (r : Nat) (n : Nat) (I : Nat → Nat → Int32) (J : Nat → Nat → Int64) (hp : n ≤ 5 ∧ I 82 3 = nI n ∧ r < 2147483648) (h : ∀ I1 : Nat → Nat → Int32, ((∀ b, b < n → I1 83 b = nI (dg n r b)) ∧ (∀ t, t < 3 → I1 84 t = nI (crd n r t)) ∧ fr (fun c _ => c = 83 ∨ c = 84) I I1) → Φ (some (.int (b2i (isRs n r (fun t => I 85 t))))) (mk I1 J)) : mj_Met Ω l false mX9_isRest d 0 0 [.ref 82, .int (nI r)] (mk I J) Φ := by
  refine inX9_isRest hd (nI r) I J ?_
  obtain ⟨hn, h3, hr⟩ := hp
  refine ⟨⟨by trivial, mj_isk_mk _ _⟩, r, rfl, n, ⟨hn, h3, hr⟩, fun A hA => ?_⟩
  obtain ⟨a1, a2, a3⟩ := hA
  have h := h A ⟨a1, a2, a3⟩
  have h1 : isRs n r (fun t => I 85 t) → Φ (some (.int 1)) (mk A J) := fun q => by rw [b2i_1 q] at h; exact h
  have h0 : ¬ isRs n r (fun t => I 85 t) → Φ (some (.int 0)) (mk A J) := fun q => by rw [b2i_0 q] at h; exact h
  refine lp_inv (σ := Unit) (n := n) (G := fun i _ => mj_G Ω l false mX9_isRest d 0 0 Φ 0 0 7 ([some (.ref 82), some (.int (nI r)), some (.int (nI i)), none, none, none], [], mk A J)) (fun i _ => ∀ b, b < i → ∀ t, t < 3 → rsB n r (fun t => I 85 t) b t) (fun i _ hi hI hk => ?_) (fun _ hI => ?_) n 0 () (by omega) (fun b hb => absurd hb (Nat.not_lt_zero b))
  · have hb3 := dg_b (n := n) (k := r) (b := i)
    have c2 : A 84 (dg n r i) = nI (crd n r (dg n r i)) := a2 _ hb3
    refine bX9_isRest_7 hd (nI r) (nI i) A J ?_
    rw [a3 82 3 (by (try dsimp only); omega), h3, if_pos (show nI i < nI n by rw [jn_lt (by omega) (by omega)]; exact hi)]
    simp (disch := omega) only [jn_in, jn_cl, gd_dec]
    rw [a1 i hi]
    simp (disch := omega) only [jn_in, jn_cl, gd_dec]
    rw [c2, a3 85 _ (by (try dsimp only); omega)]
    refine lp_inv (σ := Unit) (n := 3) (G := fun t _ => mj_G Ω l false mX9_isRest d 0 0 Φ 0 0 44 ([some (.ref 82), some (.int (nI r)), some (.int (nI i)), some (.int (nI (dg n r i))), some (.int (I 85 (dg n r i) - 2 * (nI (crd n r (dg n r i)) - 1))), some (.int (nI t))], [], mk A J)) (fun t _ => ∀ t', t' < t → rsB n r (fun t => I 85 t) i t') (fun t _ ht hT hk' => ?_) (fun _ hT => ?_) 3 0 () (by omega) (fun t ht => absurd ht (Nat.not_lt_zero t))
    · refine bX9_isRest_44 hd (nI r) (nI i) (nI (dg n r i)) _ (nI t) A J ?_
      rw [if_pos (show nI t < (3 : Int32) by rw [show (3 : Int32) = nI 3 from rfl, jn_lt (by omega) (by omega)]; exact ht)]
      simp (disch := omega) only [jn_in, jn_cl, gd_dec, jn_succ]
      have et : (nI t = nI (dg n r i)) = (t = dg n r i) := jn_eq (by omega) (by omega)
      have up : rsB n r (fun t => I 85 t) i t → ∀ t', t' < t + 1 → rsB n r (fun t => I 85 t) i t' := fun q t' ht' => by
        by_cases z : t' = t
        · rw [z]; exact q
        · exact hT t' (by omega)
      have c3 : A 84 t = nI (crd n r t) := a2 t ht
      split
      · rename_i z; rw [et] at z; exact hk' () (up (fun w => absurd z w))
      · rename_i z; rw [et] at z
        rw [c3, a3 85 t (by (try dsimp only); omega)]
        split
        · rename_i y; exact h0 (fun q => q i hi t ht z y)
        · rename_i y; exact hk' () (up (fun _ => y))
    · refine bX9_isRest_44 hd (nI r) (nI i) (nI (dg n r i)) _ (nI 3) A J ?_
      rw [if_neg (by decide), jn_succ]
      refine hk () (fun b hb t ht => ?_)
      by_cases z : b = i
      · rw [z]; exact hT t ht
      · exact hI b (by omega) t ht
  · refine bX9_isRest_7 hd (nI r) (nI n) A J ?_
    rw [a3 82 3 (by (try dsimp only); omega), h3, if_neg Int32.lt_irrefl]
    exact h1 hI
theorem sdX9_isRest : mj_Sd mX9_isRest 2 tX9_isRest := by
  intro Ω l d hd as M Φ h
  unfold tX9_isRest at h
  split at h
  · rename_i z_this r_
    obtain ⟨⟨rfl, hM⟩, r, rfl, n, hp, h⟩ := h
    rw [mj_isk_of hM]
    exact mnX9_isRest hd r n _ _ hp (by
      rw [mj_isk_of hM] at h
      exact h)
  · exact h.elim
