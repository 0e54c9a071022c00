/-! ===== thirds: the class's set and digits (by program, wip/whole/p68.py) ===== -/
def wo (e a : Int32) (t : Nat) : Int32 := if e = 0 then 5 * a * (2 - nI t) / 2 else 5 * a * nI t / 2
def dgN (f : Nat → Int32) : Nat → Int32
  | 0 => 0
  | k + 1 => dgN f k * 10 + f k
def csX9_set : List (Nat × Nat × Nat × mj_PT) := []
theorem csX9_set_ok : mj_Cs mX9_set 1 csX9_set := mj_Cs0
def cutX9_set : List (Nat × List Bool) := [(22, [true, true, true, true, true, false]), (50, [true, true, true, true, true, false])]
set_option maxRecDepth 100000 in
set_option maxHeartbeats 4000000 in
theorem inX9_set {Ω : mj_Om} {l : Launch} {d : Nat} {Φ : Option Value → mj_M → Prop} (hd : 1 ≤ d) (n_ : Int32) (e : Int32) (a : Int32) (I : Nat → Nat → Int32) (J : Nat → Nat → Int64)
    (h : ((if (5 : Int32) < n_ then (mj_G Ω l false mX9_set d 0 0 Φ 0 0 22 ([some (.ref 82), some (.int n_), some (.int e), some (.int a), some (.int (0 : Int32)), none], [], (mk (mj_ui (mj_ui I 82 3 (5 : Int32)) 82 4 (1 : Int32)) J))) else (mj_G Ω l false mX9_set d 0 0 Φ 0 0 22 ([some (.ref 82), some (.int n_), some (.int e), some (.int a), some (.int (0 : Int32)), none], [], (mk (mj_ui (mj_ui I 82 3 n_) 82 4 (1 : Int32)) J)))))) :
    mj_Met Ω l false mX9_set d 0 0 [.ref 82, .int n_, .int e, .int a] (mk I J) Φ := mj_entry (by decide) rfl (fun h => (by cases h)) (Nat.le_of_ble_eq_true rfl) (mj_blk (μ := mX9_set) (P := pX9_set) (cut := cutX9_set) (cs := csX9_set) dX9_set csX9_set_ok hd 53 0 _ h)
set_option maxRecDepth 100000 in
set_option maxHeartbeats 4000000 in
theorem bX9_set_22 {Ω : mj_Om} {l : Launch} {d : Nat} {Φ : Option Value → mj_M → Prop} (hd : 1 ≤ d) (x1 : Int32) (x2 : Int32) (x3 : Int32) (x4 : Int32) (I : Nat → Nat → Int32) (J : Nat → Nat → Int64)
    (h : ((if x4 < (I 82 3) then (mj_G Ω l false mX9_set d 0 0 Φ 0 0 22 ([some (.ref 82), some (.int x1), some (.int x2), some (.int x3), some (.int (x4 + (1 : Int32))), none], [], (mk (mj_ui I 82 4 ((I 82 4) * (3 : Int32))) J))) else (mj_G Ω l false mX9_set d 0 0 Φ 0 0 50 ([some (.ref 82), some (.int x1), some (.int x2), some (.int x3), some (.int (0 : Int32)), none], [], (mk I J)))))) :
    mj_G Ω l false mX9_set d 0 0 Φ 0 0 22 ([some (.ref 82), some (.int x1), some (.int x2), some (.int x3), some (.int x4), none], [], mk I J) := mj_blk (μ := mX9_set) (P := pX9_set) (cut := cutX9_set) (cs := csX9_set) dX9_set csX9_set_ok hd 53 22 _ h
set_option maxRecDepth 100000 in
set_option maxHeartbeats 4000000 in
theorem bX9_set_50 {Ω : mj_Om} {l : Launch} {d : Nat} {Φ : Option Value → mj_M → Prop} (hd : 1 ≤ d) (x1 : Int32) (x2 : Int32) (x3 : Int32) (x4 : Int32) (I : Nat → Nat → Int32) (J : Nat → Nat → Int64)
    (h : ((if x4 < (3 : Int32) then (if x2 = (0 : Int32) then (mj_gd (mj_inB x4 3) (mj_G Ω l false mX9_set d 0 0 Φ 0 0 50 ([some (.ref 82), some (.int x1), some (.int x2), some (.int x3), some (.int (x4 + (1 : Int32))), none], [], (mk (mj_ui I 85 (x4).toNatClampNeg ((((5 : Int32) * x3) * ((2 : Int32) - x4)) / (2 : Int32))) J)))) else (mj_gd (mj_inB x4 3) (mj_G Ω l false mX9_set d 0 0 Φ 0 0 50 ([some (.ref 82), some (.int x1), some (.int x2), some (.int x3), some (.int (x4 + (1 : Int32))), none], [], (mk (mj_ui I 85 (x4).toNatClampNeg ((((5 : Int32) * x3) * x4) / (2 : Int32))) J))))) else (Φ none (mk I J))))) :
    mj_G Ω l false mX9_set d 0 0 Φ 0 0 50 ([some (.ref 82), some (.int x1), some (.int x2), some (.int x3), some (.int x4), none], [], mk I J) := mj_blk (μ := mX9_set) (P := pX9_set) (cut := cutX9_set) (cs := csX9_set) dX9_set csX9_set_ok hd 53 50 _ h
def tX9_set : mj_PT := fun as M Φ => match as with
  | [.ref this, .int n_, .int e, .int a] => ((this = 82 ∧ mj_isk M) ∧ (∃ n : Nat, n_ = nI n ∧ ((n ≤ 5) ∧ (∀ I1 : Nat → Nat → Int32, (I1 82 3 = nI n ∧ I1 82 4 = nI (3 ^ n) ∧ (∀ t, t < 3 → I1 85 t = wo e a t) ∧ fr (fun c k => c = 85 ∨ (c = 82 ∧ (k = 3 ∨ k = 4))) M.2.2.1 I1) → Φ none (M.1, M.2.1, I1, M.2.2.2)))))
  | _ => False
set_option maxHeartbeats 4000000 in
theorem mnX9_set {Ω : mj_Om} {l : Launch} {d : Nat} {Φ : Option Value → mj_M → Prop} (hd : 1 ≤ d) (n : Nat) (e : Int32) (a : Int32) (I : Nat → Nat → Int32) (J : Nat → Nat → Int64) (hp : n ≤ 5) (h : ∀ I1 : Nat → Nat → Int32, (I1 82 3 = nI n ∧ I1 82 4 = nI (3 ^ n) ∧ (∀ t, t < 3 → I1 85 t = wo e a t) ∧ fr (fun c k => c = 85 ∨ (c = 82 ∧ (k = 3 ∨ k = 4))) I I1) → Φ none (mk I1 J)) : mj_Met Ω l false mX9_set d 0 0 [.ref 82, .int (nI n), .int e, .int a] (mk I J) Φ := by
  refine inX9_set hd (nI n) e a I J ?_
  have e5 : ¬ (5 : Int32) < nI n := by rw [show (5 : Int32) = nI 5 from rfl, jn_lt (by omega) (by omega)]; omega
  rw [if_neg e5]
  have k50 : ∀ A : Nat → Nat → Int32, A 82 3 = nI n → A 82 4 = nI (3 ^ n) → fr (fun c k => c = 82 ∧ (k = 3 ∨ k = 4)) I A → mj_G Ω l false mX9_set d 0 0 Φ 0 0 50 ([some (.ref 82), some (.int (nI n)), some (.int e), some (.int a), some (.int 0), none], [], mk A J) := by
    intro A a3 a4 hA
    refine lp_inv (σ := Nat → Nat → Int32) (n := 3) (G := fun i B => mj_G Ω l false mX9_set d 0 0 Φ 0 0 50 ([some (.ref 82), some (.int (nI n)), some (.int e), some (.int a), some (.int (nI i)), none], [], mk B J)) (fun i B => (∀ t, t < i → B 85 t = wo e a t) ∧ fr (fun c _ => c = 85) A B) (fun i B hi hI hk => ?_) (fun B hI => ?_) 3 0 A (by omega) ⟨fun t ht => absurd ht (Nat.not_lt_zero t), fr_rf⟩
    · refine bX9_set_50 hd (nI n) e a (nI i) B J ?_
      rw [if_pos (show nI i < (3 : Int32) by rw [show (3 : Int32) = nI 3 from rfl, jn_lt (by omega) (by omega)]; exact hi)]
      simp (disch := omega) only [jn_in, jn_cl, gd_dec, jn_succ]
      split
      · rename_i z
        refine hk _ ⟨fun t ht => ?_, fr_ui hI.2 rfl⟩
        by_cases y : t = i
        · rw [y, ui_s]; unfold wo; rw [if_pos z]
        · rw [ui_k y]; exact hI.1 t (by omega)
      · rename_i z
        refine hk _ ⟨fun t ht => ?_, fr_ui hI.2 rfl⟩
        by_cases y : t = i
        · rw [y, ui_s]; unfold wo; rw [if_neg z]
        · rw [ui_k y]; exact hI.1 t (by omega)
    · refine bX9_set_50 hd (nI n) e a (nI 3) B J ?_
      rw [if_neg (by decide)]
      refine h B ⟨by rw [hI.2 82 3 (by (try dsimp only); omega)]; exact a3, by rw [hI.2 82 4 (by (try dsimp only); omega)]; exact a4, hI.1, fun c k w => ?_⟩
      rw [hI.2 c k (fun z => w (Or.inl z)), hA c k (fun z => w (Or.inr z))]
  refine lp_inv (σ := Nat → Nat → Int32) (n := n) (G := fun i A => mj_G Ω l false mX9_set d 0 0 Φ 0 0 22 ([some (.ref 82), some (.int (nI n)), some (.int e), some (.int a), some (.int (nI i)), none], [], mk A J)) (fun i A => A 82 3 = nI n ∧ A 82 4 = nI (3 ^ i) ∧ fr (fun c k => c = 82 ∧ (k = 3 ∨ k = 4)) I A) (fun i A hi hI hk => ?_) (fun A hI => ?_) n 0 _ (by omega) ⟨by rw [ui_k (by decide), ui_s], ui_s, fr_ui (fr_ui fr_rf ⟨rfl, Or.inl rfl⟩) ⟨rfl, Or.inr rfl⟩⟩
  · refine bX9_set_22 hd (nI n) e a (nI i) A J ?_
    rw [hI.1, if_pos (show nI i < nI n by rw [jn_lt (by omega) (by omega)]; exact hi), jn_succ]
    refine hk _ ⟨by rw [ui_k (by decide)]; exact hI.1, ?_, fr_ui hI.2.2 ⟨rfl, Or.inr rfl⟩⟩
    rw [ui_s, hI.2.1, show (3 : Int32) = nI 3 from rfl, jn_mul, Nat.pow_succ]
  · refine bX9_set_22 hd (nI n) e a (nI n) A J ?_
    rw [hI.1, if_neg Int32.lt_irrefl]
    exact k50 A hI.1 hI.2.1 hI.2.2
theorem sdX9_set : mj_Sd mX9_set 1 tX9_set := by
  intro Ω l d hd as M Φ h
  unfold tX9_set at h
  split at h
  · rename_i z_this n_ e a
    obtain ⟨⟨rfl, hM⟩, n, rfl, hp, h⟩ := h
    rw [mj_isk_of hM]
    exact mnX9_set hd n e a _ _ hp (by
      rw [mj_isk_of hM] at h
      exact h)
  · exact h.elim
def csX9_digits : List (Nat × Nat × Nat × mj_PT) := []
theorem csX9_digits_ok : mj_Cs mX9_digits 1 csX9_digits := mj_Cs0
def cutX9_digits : List (Nat × List Bool) := [(4, [true, true, true])]
set_option maxRecDepth 100000 in
set_option maxHeartbeats 4000000 in
theorem inX9_digits {Ω : mj_Om} {l : Launch} {d : Nat} {Φ : Option Value → mj_M → Prop} (hd : 1 ≤ d) (I : Nat → Nat → Int32) (J : Nat → Nat → Int64)
    (h : ((mj_G Ω l false mX9_digits d 0 0 Φ 0 0 4 ([some (.ref 82), some (.int (0 : Int32)), some (.int (0 : Int32))], [], (mk I J))))) :
    mj_Met Ω l false mX9_digits d 0 0 [.ref 82] (mk I J) Φ := mj_entry (by decide) rfl (fun h => (by cases h)) (Nat.le_of_ble_eq_true rfl) (mj_blk (μ := mX9_digits) (P := pX9_digits) (cut := cutX9_digits) (cs := csX9_digits) dX9_digits csX9_digits_ok hd 22 0 _ h)
set_option maxRecDepth 100000 in
set_option maxHeartbeats 4000000 in
theorem bX9_digits_4 {Ω : mj_Om} {l : Launch} {d : Nat} {Φ : Option Value → mj_M → Prop} (hd : 1 ≤ d) (x1 : Int32) (x2 : Int32) (I : Nat → Nat → Int32) (J : Nat → Nat → Int64)
    (h : ((if x2 < (I 82 3) then (mj_gd (mj_inB x2 5) (mj_G Ω l false mX9_digits d 0 0 Φ 0 0 4 ([some (.ref 82), some (.int ((x1 * (10 : Int32)) + (I 83 (x2).toNatClampNeg))), some (.int (x2 + (1 : Int32)))], [], (mk I J)))) else (Φ (some (.int x1)) (mk I J))))) :
    mj_G Ω l false mX9_digits d 0 0 Φ 0 0 4 ([some (.ref 82), some (.int x1), some (.int x2)], [], mk I J) := mj_blk (μ := mX9_digits) (P := pX9_digits) (cut := cutX9_digits) (cs := csX9_digits) dX9_digits csX9_digits_ok hd 22 4 _ h
def tX9_digits : mj_PT := fun as M Φ => match as with
  | [.ref this] => ((this = 82 ∧ mj_isk M) ∧ (∃ n : Nat, ((n ≤ 5 ∧ M.2.2.1 82 3 = nI n) ∧ Φ (some (.int (dgN (fun b => M.2.2.1 83 b) n))) M)))
  | _ => False
set_option maxHeartbeats 4000000 in
theorem mnX9_digits {Ω : mj_Om} {l : Launch} {d : Nat} {Φ : Option Value → mj_M → Prop} (hd : 1 ≤ d) (n : Nat) (I : Nat → Nat → Int32) (J : Nat → Nat → Int64) (hp : n ≤ 5 ∧ I 82 3 = nI n) (h : Φ (some (.int (dgN (fun b => I 83 b) n))) (mk I J)) : mj_Met Ω l false mX9_digits d 0 0 [.ref 82] (mk I J) Φ := by
  refine inX9_digits hd I J ?_
  obtain ⟨hn, h3⟩ := hp
  refine lp_inv (σ := Unit) (n := n) (G := fun i _ => mj_G Ω l false mX9_digits d 0 0 Φ 0 0 4 ([some (.ref 82), some (.int (dgN (fun b => I 83 b) i)), some (.int (nI i))], [], mk I J)) (fun _ _ => True) (fun i _ hi _ hk => ?_) (fun _ _ => ?_) n 0 () (by omega) trivial
  · refine bX9_digits_4 hd (dgN (fun b => I 83 b) i) (nI i) I J ?_
    rw [h3, if_pos (show nI i < nI n by rw [jn_lt (by omega) (by omega)]; exact hi)]
    simp (disch := omega) only [jn_in, jn_cl, gd_dec, jn_succ]
    exact hk () trivial
  · refine bX9_digits_4 hd (dgN (fun b => I 83 b) n) (nI n) I J ?_
    rw [h3, if_neg Int32.lt_irrefl]
    exact h
theorem sdX9_digits : mj_Sd mX9_digits 1 tX9_digits := by
  intro Ω l d hd as M Φ h
  unfold tX9_digits at h
  split at h
  · rename_i z_this
    obtain ⟨⟨rfl, hM⟩, n, hp, h⟩ := h
    rw [mj_isk_of hM]
    exact mnX9_digits hd n _ _ hp (by
      rw [mj_isk_of hM] at h
      exact h)
  · exact h.elim
