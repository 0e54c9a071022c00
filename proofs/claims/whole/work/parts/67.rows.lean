/-! ===== thirds: rows and their digits (by program, wip/whole/p67.py) ===== -/
/-- what boat b of n chooses in row k -/
def dg (n k b : Nat) : Nat := k / 3 ^ (n - 1 - b) % 3
theorem dg_b {n k b : Nat} : dg n k b < 3 := Nat.mod_lt _ (by decide)
theorem dv_s {k n j : Nat} (h : j + 1 ≤ n) : k / 3 ^ (n - (j + 1)) / 3 = k / 3 ^ (n - j) := by
  rw [Nat.div_div_eq_div_mul, ← Nat.pow_succ, show (n - (j + 1)).succ = n - j by omega]
def csX12_layThirds : List (Nat × Nat × Nat × mj_PT) := []
theorem csX12_layThirds_ok : mj_Cs mX12_layThirds 1 csX12_layThirds := mj_Cs0
def cutX12_layThirds : List (Nat × List Bool) := [(9, [true, true, true, true])]
set_option maxRecDepth 100000 in
set_option maxHeartbeats 4000000 in
theorem inX12_layThirds {Ω : mj_Om} {l : Launch} {d : Nat} {Φ : Option Value → mj_M → Prop} (hd : 1 ≤ d) (k_ : Int32) (I : Nat → Nat → Int32) (J : Nat → Nat → Int64)
    (h : ((mj_G Ω l false mX12_layThirds d 0 0 Φ 0 0 9 ([some (.ref 91), some (.int k_), some (.int k_), some (.int ((I 91 22) - (1 : Int32)))], [], (mk I J))))) :
    mj_Met Ω l false mX12_layThirds d 0 0 [.ref 91, .int k_] (mk I J) Φ := mj_entry (by decide) rfl (fun h => (by cases h)) (Nat.le_of_ble_eq_true rfl) (mj_blk (μ := mX12_layThirds) (P := pX12_layThirds) (cut := cutX12_layThirds) (cs := csX12_layThirds) dX12_layThirds csX12_layThirds_ok hd 24 0 _ h)
set_option maxRecDepth 100000 in
set_option maxHeartbeats 4000000 in
theorem bX12_layThirds_9 {Ω : mj_Om} {l : Launch} {d : Nat} {Φ : Option Value → mj_M → Prop} (hd : 1 ≤ d) (x1 : Int32) (x2 : Int32) (x3 : Int32) (I : Nat → Nat → Int32) (J : Nat → Nat → Int64)
    (h : ((if x3 < (0 : Int32) then (Φ none (mk I J)) else (mj_gd (mj_inB x3 8) (mj_G Ω l false mX12_layThirds d 0 0 Φ 0 0 9 ([some (.ref 91), some (.int x1), some (.int (x2 / (3 : Int32))), some (.int (x3 + (-1 : Int32)))], [], (mk (mj_ui I 112 (x3).toNatClampNeg (x2 - x2 / (3 : Int32) * (3 : Int32))) J))))))) :
    mj_G Ω l false mX12_layThirds d 0 0 Φ 0 0 9 ([some (.ref 91), some (.int x1), some (.int x2), some (.int x3)], [], mk I J) := mj_blk (μ := mX12_layThirds) (P := pX12_layThirds) (cut := cutX12_layThirds) (cs := csX12_layThirds) dX12_layThirds csX12_layThirds_ok hd 24 9 _ h
def tX12_layThirds : mj_PT := fun as M Φ => match as with
  | [.ref this, .int k_] => ((this = 91 ∧ mj_isk M) ∧ (∃ k : Nat, k_ = nI k ∧ ((okM M.2.2.1 ∧ k < 2147483648) ∧ (∀ I1 : Nat → Nat → Int32, ((∀ b, b < nM M.2.2.1 → I1 112 b = nI (dg (nM M.2.2.1) k b)) ∧ fr (fun c _ => c = 112) M.2.2.1 I1) → Φ none (M.1, M.2.1, I1, M.2.2.2)))))
  | _ => False
set_option maxHeartbeats 4000000 in
theorem mnX12_layThirds {Ω : mj_Om} {l : Launch} {d : Nat} {Φ : Option Value → mj_M → Prop} (hd : 1 ≤ d) (k : Nat) (I : Nat → Nat → Int32) (J : Nat → Nat → Int64) (hp : okM I ∧ k < 2147483648) (h : ∀ I1 : Nat → Nat → Int32, ((∀ b, b < nM I → I1 112 b = nI (dg (nM I) k b)) ∧ fr (fun c _ => c = 112) I I1) → Φ none (mk I1 J)) : mj_Met Ω l false mX12_layThirds d 0 0 [.ref 91, .int (nI k)] (mk I J) Φ := by
  refine inX12_layThirds hd (nI k) I J ?_
  obtain ⟨⟨hc, hn⟩, hk⟩ := hp
  have key : ∀ (j : Nat) (x3 : Int32) (A : Nat → Nat → Int32), j ≤ nM I → x3 = nI j - 1 → (∀ b, j ≤ b → b < nM I → A 112 b = nI (dg (nM I) k b)) → fr (fun c _ => c = 112) I A → mj_G Ω l false mX12_layThirds d 0 0 Φ 0 0 9 ([some (.ref 91), some (.int (nI k)), some (.int (nI (k / 3 ^ (nM I - j)))), some (.int x3)], [], mk A J) := by
    intro j
    induction j with
    | zero =>
      intro x3 A hj hx hA hfr
      refine bX12_layThirds_9 hd (nI k) _ x3 A J ?_
      rw [hx, if_pos (by decide)]
      exact h A ⟨fun b hb => hA b (Nat.zero_le b) hb, hfr⟩
    | succ j ih =>
      intro x3 A hj hx hA hfr
      have hx' : x3 = nI j := by rw [hx, show (1 : Int32) = nI 1 from rfl, jn_sub (by omega)]; rfl
      have hle := Nat.div_le_self k (3 ^ (nM I - (j + 1)))
      refine bX12_layThirds_9 hd (nI k) _ x3 A J ?_
      rw [hx', if_neg (show ¬ nI j < 0 by rw [Int32.lt_iff_toInt_lt, jn_toInt (by omega), i_0]; omega)]
      rw [show (3 : Int32) = nI 3 from rfl, jn_rem (by omega) (by omega), jn_div (by omega) (by omega), dv_s hj]
      simp (disch := omega) only [jn_in, jn_cl, gd_dec]
      refine ih _ _ (by omega) (Int32.sub_eq_add_neg _ _).symm (fun b h1 h2 => ?_) (fr_ui hfr rfl)
      by_cases z : b = j
      · rw [z, ui_s, show nM I - (j + 1) = nM I - 1 - j by omega]; rfl
      · rw [ui_k z]; exact hA b (by omega) h2
  have k0 := key (nM I) _ I (Nat.le_refl _) rfl (fun b h1 h2 => absurd h2 (by omega)) fr_rf
  rw [Nat.sub_self, Nat.pow_zero, Nat.div_one] at k0
  rw [hc]
  exact k0
theorem sdX12_layThirds : mj_Sd mX12_layThirds 1 tX12_layThirds := by
  intro Ω l d hd as M Φ h
  unfold tX12_layThirds at h
  split at h
  · rename_i z_this k_
    obtain ⟨⟨rfl, hM⟩, k, rfl, hp, h⟩ := h
    rw [mj_isk_of hM]
    exact mnX12_layThirds hd k _ _ hp (by
      rw [mj_isk_of hM] at h
      exact h)
  · exact h.elim
def csX12_rows : List (Nat × Nat × Nat × mj_PT) := []
theorem csX12_rows_ok : mj_Cs mX12_rows 1 csX12_rows := mj_Cs0
def cutX12_rows : List (Nat × List Bool) := [(4, [true, true, true])]
set_option maxRecDepth 100000 in
set_option maxHeartbeats 4000000 in
theorem inX12_rows {Ω : mj_Om} {l : Launch} {d : Nat} {Φ : Option Value → mj_M → Prop} (hd : 1 ≤ d) (I : Nat → Nat → Int32) (J : Nat → Nat → Int64)
    (h : ((mj_G Ω l false mX12_rows d 0 0 Φ 0 0 4 ([some (.ref 91), some (.int (1 : Int32)), some (.int (0 : Int32))], [], (mk I J))))) :
    mj_Met Ω l false mX12_rows d 0 0 [.ref 91] (mk I J) Φ := mj_entry (by decide) rfl (fun h => (by cases h)) (Nat.le_of_ble_eq_true rfl) (mj_blk (μ := mX12_rows) (P := pX12_rows) (cut := cutX12_rows) (cs := csX12_rows) dX12_rows csX12_rows_ok hd 17 0 _ h)
set_option maxRecDepth 100000 in
set_option maxHeartbeats 4000000 in
theorem bX12_rows_4 {Ω : mj_Om} {l : Launch} {d : Nat} {Φ : Option Value → mj_M → Prop} (hd : 1 ≤ d) (x1 : Int32) (x2 : Int32) (I : Nat → Nat → Int32) (J : Nat → Nat → Int64)
    (h : ((if x2 < (I 91 22) then (mj_G Ω l false mX12_rows d 0 0 Φ 0 0 4 ([some (.ref 91), some (.int (x1 * (3 : Int32))), some (.int (x2 + (1 : Int32)))], [], (mk I J))) else (Φ (some (.int x1)) (mk I J))))) :
    mj_G Ω l false mX12_rows d 0 0 Φ 0 0 4 ([some (.ref 91), some (.int x1), some (.int x2)], [], mk I J) := mj_blk (μ := mX12_rows) (P := pX12_rows) (cut := cutX12_rows) (cs := csX12_rows) dX12_rows csX12_rows_ok hd 17 4 _ h
def tX12_rows : mj_PT := fun as M Φ => match as with
  | [.ref this] => ((this = 91 ∧ mj_isk M) ∧ ((okM M.2.2.1) ∧ Φ (some (.int (nI (3 ^ nM M.2.2.1)))) M))
  | _ => False
set_option maxHeartbeats 4000000 in
theorem mnX12_rows {Ω : mj_Om} {l : Launch} {d : Nat} {Φ : Option Value → mj_M → Prop} (hd : 1 ≤ d) (I : Nat → Nat → Int32) (J : Nat → Nat → Int64) (hp : okM I) (h : Φ (some (.int (nI (3 ^ nM I)))) (mk I J)) : mj_Met Ω l false mX12_rows d 0 0 [.ref 91] (mk I J) Φ := by
  refine inX12_rows hd I J ?_
  obtain ⟨hc, hn⟩ := hp
  refine lp_inv (σ := Int32) (n := nM I) (G := fun i x => mj_G Ω l false mX12_rows d 0 0 Φ 0 0 4 ([some (.ref 91), some (.int x), some (.int (nI i))], [], mk I J)) (fun i x => x = nI (3 ^ i)) (fun i x hi hI hk => ?_) (fun x hI => ?_) (nM I) 0 1 (by omega) rfl
  · refine bX12_rows_4 hd x (nI i) I J ?_
    rw [hc, if_pos (show nI i < nI (nM I) by rw [jn_lt (by omega) (by omega)]; exact hi), jn_succ]
    exact hk _ (by rw [hI, show (3 : Int32) = nI 3 from rfl, jn_mul, Nat.pow_succ])
  · refine bX12_rows_4 hd x (nI (nM I)) I J ?_
    rw [hc, if_neg Int32.lt_irrefl, hI]
    exact h
theorem sdX12_rows : mj_Sd mX12_rows 1 tX12_rows := by
  intro Ω l d hd as M Φ h
  unfold tX12_rows at h
  split at h
  · rename_i z_this
    obtain ⟨⟨rfl, hM⟩, hp, h⟩ := h
    rw [mj_isk_of hM]
    exact mnX12_rows hd _ _ hp (by
      rw [mj_isk_of hM] at h
      exact h)
  · exact h.elim
