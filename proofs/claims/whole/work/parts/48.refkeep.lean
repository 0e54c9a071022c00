/-! ===== the reference's states kept, put aside, begun (by program, wip/whole/pq2.py) ===== -/
def kpP (I : Nat → Nat → Int32) (c d o p P : Nat) (A : Nat → Nat → Int32) : Prop := (∀ k, k < P → A d (o + k) = I c (p + k)) ∧ (∀ k, k < o ∨ o + P ≤ k → A d k = I d k) ∧ fr (fun x _ => x = d) I A
theorem kpP_0 {I : Nat → Nat → Int32} {c d o p : Nat} : kpP I c d o p 0 I := ⟨fun k hk => absurd hk (Nat.not_lt_zero k), fun _ _ => rfl, fr_rf⟩
theorem kpP_up {I A : Nat → Nat → Int32} {c d o p P : Nat} (hcd : ¬ c = d) (h : kpP I c d o p P A) : kpP I c d o p (P + 1) (mj_ui A d (o + P) (A c (p + P))) := by
  refine ⟨fun k hk => ?_, fun k hk => ?_, fr_ui h.2.2 rfl⟩
  · by_cases y : k = P
    · rw [y, ui_s, h.2.2 c _ (by (try dsimp only); exact hcd)]
    · rw [ui_k (by omega)]; exact h.1 k (by omega)
  · rw [ui_k (by omega)]; exact h.2.1 k (by omega)
def csX12_putAside : List (Nat × Nat × Nat × mj_PT) := []
theorem csX12_putAside_ok : mj_Cs mX12_putAside 1 csX12_putAside := mj_Cs0
def cutX12_putAside : List (Nat × List Bool) := [(2, [true, true])]
set_option maxRecDepth 100000 in
set_option maxHeartbeats 4000000 in
theorem inX12_putAside {Ω : mj_Om} {l : Launch} {d : Nat} {Φ : Option Value → mj_M → Prop} (hd : 1 ≤ d) (I : Nat → Nat → Int32) (J : Nat → Nat → Int64)
    (h : ((mj_G Ω l false mX12_putAside d 0 0 Φ 0 0 2 ([some (.ref 91), some (.int (0 : Int32))], [], (mk I J))))) :
    mj_Met Ω l false mX12_putAside d 0 0 [.ref 91] (mk I J) Φ := mj_entry (by decide) rfl (fun h => (by cases h)) (Nat.le_of_ble_eq_true rfl) (mj_blk (μ := mX12_putAside) (P := pX12_putAside) (cut := cutX12_putAside) (cs := csX12_putAside) dX12_putAside csX12_putAside_ok hd 17 0 _ h)
set_option maxRecDepth 100000 in
set_option maxHeartbeats 4000000 in
theorem bX12_putAside_2 {Ω : mj_Om} {l : Launch} {d : Nat} {Φ : Option Value → mj_M → Prop} (hd : 1 ≤ d) (x1 : Int32) (I : Nat → Nat → Int32) (J : Nat → Nat → Int64)
    (h : ((if x1 < (49 : Int32) then (mj_gd (mj_inB x1 49) (mj_gd (mj_inB x1 49) (mj_G Ω l false mX12_putAside d 0 0 Φ 0 0 2 ([some (.ref 91), some (.int (x1 + (1 : Int32)))], [], (mk (mj_ui I 111 (x1).toNatClampNeg (I 106 (x1).toNatClampNeg)) J))))) else (Φ none (mk I J))))) :
    mj_G Ω l false mX12_putAside d 0 0 Φ 0 0 2 ([some (.ref 91), some (.int x1)], [], mk I J) := mj_blk (μ := mX12_putAside) (P := pX12_putAside) (cut := cutX12_putAside) (cs := csX12_putAside) dX12_putAside csX12_putAside_ok hd 17 2 _ h
def tX12_putAside : mj_PT := fun as M Φ => match as with
  | [.ref this] => ((this = 91 ∧ mj_isk M) ∧ (∀ I1 : Nat → Nat → Int32, (kpP M.2.2.1 106 111 0 0 49 I1) → Φ none (M.1, M.2.1, I1, M.2.2.2)))
  | _ => False
theorem mnX12_putAside {Ω : mj_Om} {l : Launch} {d : Nat} {Φ : Option Value → mj_M → Prop} (hd : 1 ≤ d) (I : Nat → Nat → Int32) (J : Nat → Nat → Int64) (h : ∀ I1 : Nat → Nat → Int32, (kpP I 106 111 0 0 49 I1) → Φ none (mk I1 J)) : mj_Met Ω l false mX12_putAside d 0 0 [.ref 91] (mk I J) Φ := by
  refine inX12_putAside hd I J ?_
  refine lp_inv (σ := Nat → Nat → Int32) (n := 49) (G := fun i A => mj_G Ω l false mX12_putAside d 0 0 Φ 0 0 2 ([some (.ref 91), some (.int (nI i))], [], mk A J)) (fun i A => kpP I 106 111 0 0 i A) (fun i A hi hI hk => ?_) (fun A hI => ?_) 49 0 I (by omega) kpP_0
  · refine bX12_putAside_2 hd (nI i) A J ?_
    rw [if_pos (show nI i < (49 : Int32) by rw [show (49 : Int32) = nI 49 from rfl, jn_lt (by omega) (by omega)]; exact hi)]
    simp (disch := omega) only [jn_in, jn_cl, gd_dec, jn_succ]
    have := kpP_up (by decide) hI
    rw [Nat.zero_add] at this
    exact hk _ this
  · refine bX12_putAside_2 hd (nI 49) A J ?_
    rw [if_neg (by decide)]
    exact h A hI
theorem sdX12_putAside : mj_Sd mX12_putAside 1 tX12_putAside := by
  intro Ω l d hd as M Φ h
  unfold tX12_putAside at h
  split at h
  · rename_i z_this
    obtain ⟨⟨rfl, hM⟩, h⟩ := h
    rw [mj_isk_of hM]
    exact mnX12_putAside hd _ _ (by
      rw [mj_isk_of hM] at h
      exact h)
  · exact h.elim
def csX12_takeBack : List (Nat × Nat × Nat × mj_PT) := []
theorem csX12_takeBack_ok : mj_Cs mX12_takeBack 1 csX12_takeBack := mj_Cs0
def cutX12_takeBack : List (Nat × List Bool) := [(2, [true, true])]
set_option maxRecDepth 100000 in
set_option maxHeartbeats 4000000 in
theorem inX12_takeBack {Ω : mj_Om} {l : Launch} {d : Nat} {Φ : Option Value → mj_M → Prop} (hd : 1 ≤ d) (I : Nat → Nat → Int32) (J : Nat → Nat → Int64)
    (h : ((mj_G Ω l false mX12_takeBack d 0 0 Φ 0 0 2 ([some (.ref 91), some (.int (0 : Int32))], [], (mk I J))))) :
    mj_Met Ω l false mX12_takeBack d 0 0 [.ref 91] (mk I J) Φ := mj_entry (by decide) rfl (fun h => (by cases h)) (Nat.le_of_ble_eq_true rfl) (mj_blk (μ := mX12_takeBack) (P := pX12_takeBack) (cut := cutX12_takeBack) (cs := csX12_takeBack) dX12_takeBack csX12_takeBack_ok hd 23 0 _ h)
set_option maxRecDepth 100000 in
set_option maxHeartbeats 4000000 in
theorem bX12_takeBack_2 {Ω : mj_Om} {l : Launch} {d : Nat} {Φ : Option Value → mj_M → Prop} (hd : 1 ≤ d) (x1 : Int32) (I : Nat → Nat → Int32) (J : Nat → Nat → Int64)
    (h : ((if x1 < (49 : Int32) then (mj_gd (mj_inB x1 49) (mj_gd (mj_inB x1 49) (mj_G Ω l false mX12_takeBack d 0 0 Φ 0 0 2 ([some (.ref 91), some (.int (x1 + (1 : Int32)))], [], (mk (mj_ui I 106 (x1).toNatClampNeg (I 111 (x1).toNatClampNeg)) J))))) else (Φ none (mk (mj_ui (mj_ui I 91 25 (-1 : Int32)) 91 26 (0 : Int32)) J))))) :
    mj_G Ω l false mX12_takeBack d 0 0 Φ 0 0 2 ([some (.ref 91), some (.int x1)], [], mk I J) := mj_blk (μ := mX12_takeBack) (P := pX12_takeBack) (cut := cutX12_takeBack) (cs := csX12_takeBack) dX12_takeBack csX12_takeBack_ok hd 23 2 _ h
def tX12_takeBack : mj_PT := fun as M Φ => match as with
  | [.ref this] => ((this = 91 ∧ mj_isk M) ∧ (∀ I1 : Nat → Nat → Int32, ((∀ k, k < 49 → I1 106 k = M.2.2.1 111 k) ∧ I1 91 25 = -1 ∧ I1 91 26 = 0 ∧ fr (fun c k => (c = 106 ∧ k < 49) ∨ (c = 91 ∧ (k = 25 ∨ k = 26))) M.2.2.1 I1) → Φ none (M.1, M.2.1, I1, M.2.2.2)))
  | _ => False
theorem mnX12_takeBack {Ω : mj_Om} {l : Launch} {d : Nat} {Φ : Option Value → mj_M → Prop} (hd : 1 ≤ d) (I : Nat → Nat → Int32) (J : Nat → Nat → Int64) (h : ∀ I1 : Nat → Nat → Int32, ((∀ k, k < 49 → I1 106 k = I 111 k) ∧ I1 91 25 = -1 ∧ I1 91 26 = 0 ∧ fr (fun c k => (c = 106 ∧ k < 49) ∨ (c = 91 ∧ (k = 25 ∨ k = 26))) I I1) → Φ none (mk I1 J)) : mj_Met Ω l false mX12_takeBack d 0 0 [.ref 91] (mk I J) Φ := by
  refine inX12_takeBack hd I J ?_
  refine lp_inv (σ := Nat → Nat → Int32) (n := 49) (G := fun i A => mj_G Ω l false mX12_takeBack d 0 0 Φ 0 0 2 ([some (.ref 91), some (.int (nI i))], [], mk A J)) (fun i A => kpP I 111 106 0 0 i A) (fun i A hi hI hk => ?_) (fun A hI => ?_) 49 0 I (by omega) kpP_0
  · refine bX12_takeBack_2 hd (nI i) A J ?_
    rw [if_pos (show nI i < (49 : Int32) by rw [show (49 : Int32) = nI 49 from rfl, jn_lt (by omega) (by omega)]; exact hi)]
    simp (disch := omega) only [jn_in, jn_cl, gd_dec, jn_succ]
    have := kpP_up (by decide) hI
    rw [Nat.zero_add] at this
    exact hk _ this
  · refine bX12_takeBack_2 hd (nI 49) A J ?_
    rw [if_neg (by decide)]
    refine h _ ⟨fun k hk => ?_, by rw [ui_k (by decide), ui_s], ui_s, fr_ui (fr_ui (fun a k w => ?_) (by (try dsimp only); omega)) (by (try dsimp only); omega)⟩
    · rw [ui_c (by decide), ui_c (by decide)]
      have := hI.1 k hk
      rwa [Nat.zero_add] at this
    · try dsimp only at w
      by_cases y : a = 106
      · rw [y]; exact hI.2.1 k (by omega)
      · exact hI.2.2 a k y
theorem sdX12_takeBack : mj_Sd mX12_takeBack 1 tX12_takeBack := by
  intro Ω l d hd as M Φ h
  unfold tX12_takeBack at h
  split at h
  · rename_i z_this
    obtain ⟨⟨rfl, hM⟩, h⟩ := h
    rw [mj_isk_of hM]
    exact mnX12_takeBack hd _ _ (by
      rw [mj_isk_of hM] at h
      exact h)
  · exact h.elim
def csX12_keep : List (Nat × Nat × Nat × mj_PT) := []
theorem csX12_keep_ok : mj_Cs mX12_keep 1 csX12_keep := mj_Cs0
def cutX12_keep : List (Nat × List Bool) := [(12, [true, true]), (52, [true, true])]
set_option maxRecDepth 100000 in
set_option maxHeartbeats 4000000 in
theorem inX12_keep {Ω : mj_Om} {l : Launch} {d : Nat} {Φ : Option Value → mj_M → Prop} (hd : 1 ≤ d) (I : Nat → Nat → Int32) (J : Nat → Nat → Int64)
    (h : ((if (I 91 31) = (40 : Int32) then (mj_G Ω l false mX12_keep d 0 0 Φ 0 0 12 ([some (.ref 91), some (.int (49 : Int32))], [], (mk I J))) else (mj_G Ω l false mX12_keep d 0 0 Φ 0 0 52 ([some (.ref 91), some (.int (0 : Int32))], [], (mk I J)))))) :
    mj_Met Ω l false mX12_keep d 0 0 [.ref 91] (mk I J) Φ := mj_entry (by decide) rfl (fun h => (by cases h)) (Nat.le_of_ble_eq_true rfl) (mj_blk (μ := mX12_keep) (P := pX12_keep) (cut := cutX12_keep) (cs := csX12_keep) dX12_keep csX12_keep_ok hd 57 0 _ h)
set_option maxRecDepth 100000 in
set_option maxHeartbeats 4000000 in
theorem bX12_keep_12 {Ω : mj_Om} {l : Launch} {d : Nat} {Φ : Option Value → mj_M → Prop} (hd : 1 ≤ d) (x1 : Int32) (I : Nat → Nat → Int32) (J : Nat → Nat → Int64)
    (h : ((if x1 < ((Int16.ofInt 1960).toInt32) then (mj_gd (mj_inB x1 1960) (mj_gd (mj_inB (x1 - (49 : Int32)) 1960) (mj_G Ω l false mX12_keep d 0 0 Φ 0 0 12 ([some (.ref 91), some (.int (x1 + (1 : Int32)))], [], (mk (mj_ui I 110 ((x1 - (49 : Int32))).toNatClampNeg (I 110 (x1).toNatClampNeg)) J))))) else (mj_G Ω l false mX12_keep d 0 0 Φ 0 0 52 ([some (.ref 91), some (.int (0 : Int32))], [], (mk (mj_ui I 91 31 ((I 91 31) - (1 : Int32))) J)))))) :
    mj_G Ω l false mX12_keep d 0 0 Φ 0 0 12 ([some (.ref 91), some (.int x1)], [], mk I J) := mj_blk (μ := mX12_keep) (P := pX12_keep) (cut := cutX12_keep) (cs := csX12_keep) dX12_keep csX12_keep_ok hd 57 12 _ h
set_option maxRecDepth 100000 in
set_option maxHeartbeats 4000000 in
theorem bX12_keep_52 {Ω : mj_Om} {l : Launch} {d : Nat} {Φ : Option Value → mj_M → Prop} (hd : 1 ≤ d) (x1 : Int32) (I : Nat → Nat → Int32) (J : Nat → Nat → Int64)
    (h : ((if x1 < (49 : Int32) then (mj_gd (mj_inB x1 49) (mj_gd (mj_inB (((49 : Int32) * (I 91 31)) + x1) 1960) (mj_G Ω l false mX12_keep d 0 0 Φ 0 0 52 ([some (.ref 91), some (.int (x1 + (1 : Int32)))], [], (mk (mj_ui I 110 ((((49 : Int32) * (I 91 31)) + x1)).toNatClampNeg (I 106 (x1).toNatClampNeg)) J))))) else (Φ (some (.int ((I 91 31) + (1 : Int32)))) (mk (mj_ui I 91 31 ((I 91 31) + (1 : Int32))) J))))) :
    mj_G Ω l false mX12_keep d 0 0 Φ 0 0 52 ([some (.ref 91), some (.int x1)], [], mk I J) := mj_blk (μ := mX12_keep) (P := pX12_keep) (cut := cutX12_keep) (cs := csX12_keep) dX12_keep csX12_keep_ok hd 57 52 _ h
def tX12_keep : mj_PT := fun as M Φ => match as with
  | [.ref this] => ((this = 91 ∧ mj_isk M) ∧ (∃ a : Nat, ((M.2.2.1 91 31 = nI a ∧ a ≤ 40) ∧ (∀ I1 : Nat → Nat → Int32, (I1 91 31 = nI (ctA a) ∧ (∀ k, k < 49 → I1 110 (49 * (ctA a - 1) + k) = M.2.2.1 106 k) ∧ (∀ k, k < 49 * (ctA a - 1) → I1 110 k = if a = 40 then M.2.2.1 110 (k + 49) else M.2.2.1 110 k) ∧ fr (fun c k => c = 110 ∨ (c = 91 ∧ k = 31)) M.2.2.1 I1) → Φ (some (.int (nI (ctA a)))) (M.1, M.2.1, I1, M.2.2.2)))))
  | _ => False
set_option maxHeartbeats 4000000 in
theorem mnX12_keep {Ω : mj_Om} {l : Launch} {d : Nat} {Φ : Option Value → mj_M → Prop} (hd : 1 ≤ d) (a : Nat) (I : Nat → Nat → Int32) (J : Nat → Nat → Int64) (hp : I 91 31 = nI a ∧ a ≤ 40) (h : ∀ I1 : Nat → Nat → Int32, (I1 91 31 = nI (ctA a) ∧ (∀ k, k < 49 → I1 110 (49 * (ctA a - 1) + k) = I 106 k) ∧ (∀ k, k < 49 * (ctA a - 1) → I1 110 k = if a = 40 then I 110 (k + 49) else I 110 k) ∧ fr (fun c k => c = 110 ∨ (c = 91 ∧ k = 31)) I I1) → Φ (some (.int (nI (ctA a)))) (mk I1 J)) : mj_Met Ω l false mX12_keep d 0 0 [.ref 91] (mk I J) Φ := by
  refine inX12_keep hd I J ?_
  obtain ⟨h1, ha⟩ := hp
  have s16 : (Int16.ofInt 1960).toInt32 = nI 1960 := by decide
  have k52 : ∀ (e : Nat) (A : Nat → Nat → Int32), e ≤ 39 → ctA a = e + 1 → A 91 31 = nI e → (∀ k, k < 49 * e → A 110 k = if a = 40 then I 110 (k + 49) else I 110 k) → fr (fun c k => c = 110 ∨ (c = 91 ∧ k = 31)) I A → mj_G Ω l false mX12_keep d 0 0 Φ 0 0 52 ([some (.ref 91), some (.int (nI 0))], [], mk A J) := by
    intro e A he hct h31 hrow hfr
    refine lp_inv (σ := Nat → Nat → Int32) (n := 49) (G := fun i B => mj_G Ω l false mX12_keep d 0 0 Φ 0 0 52 ([some (.ref 91), some (.int (nI i))], [], mk B J)) (fun i B => kpP A 106 110 (49 * e) 0 i B) (fun i B hi hI hk => ?_) (fun B hI => ?_) 49 0 A (by omega) kpP_0
    · refine bX12_keep_52 hd (nI i) B J ?_
      rw [hI.2.2 91 31 (by (try dsimp only); omega), h31, if_pos (show nI i < (49 : Int32) by rw [show (49 : Int32) = nI 49 from rfl, jn_lt (by omega) (by omega)]; exact hi)]
      have e5 : (49 : Int32) * nI e + nI i = nI (49 * e + i) := by rw [show (49 : Int32) = nI 49 from rfl, jn_mul, jn_add]
      rw [e5]
      simp (disch := omega) only [jn_in, jn_cl, gd_dec, jn_succ]
      have := kpP_up (by decide) hI
      rw [Nat.zero_add] at this
      exact hk _ this
    · refine bX12_keep_52 hd (nI 49) B J ?_
      rw [hI.2.2 91 31 (by (try dsimp only); omega), h31, if_neg (by decide), jn_succ, ← hct]
      refine h _ ⟨ui_s, fun k hk => ?_, fun k hk => ?_, fr_ui (fun x k w => ?_) (by (try dsimp only); omega)⟩
      · rw [ui_c (by decide), hct, Nat.add_sub_cancel]
        have := hI.1 k hk
        rw [Nat.zero_add] at this
        rw [this, hfr 106 k (by (try dsimp only); omega)]
      · rw [hct, Nat.add_sub_cancel] at hk
        rw [ui_c (by decide), hI.2.1 k (by omega)]
        exact hrow k hk
      · try dsimp only at w
        rw [hI.2.2 x k (by (try dsimp only); omega), hfr x k w]
  rw [h1]
  by_cases q : a = 40
  · rw [if_pos (by rw [q]; rfl)]
    refine lp_inv (σ := Nat → Nat → Int32) (n := 1911) (G := fun i A => mj_G Ω l false mX12_keep d 0 0 Φ 0 0 12 ([some (.ref 91), some (.int (nI (i + 49)))], [], mk A J)) (fun i A => (∀ k, k < i → A 110 k = I 110 (k + 49)) ∧ (∀ k, i ≤ k → A 110 k = I 110 k) ∧ fr (fun c _ => c = 110) I A) (fun i A hi hI hk => ?_) (fun A hI => ?_) 1911 0 I (by omega) ⟨fun k hk => absurd hk (Nat.not_lt_zero k), fun _ _ => rfl, fr_rf⟩
    · refine bX12_keep_12 hd (nI (i + 49)) A J ?_
      have es : nI (i + 49) - 49 = nI i := by rw [show (49 : Int32) = nI 49 from rfl, jn_sub (by omega), Nat.add_sub_cancel]
      rw [s16, if_pos (by rw [jn_lt (by omega) (by omega)]; omega), es]
      simp (disch := omega) only [jn_in, jn_cl, gd_dec, jn_succ]
      rw [show i + 49 + 1 = i + 1 + 49 by omega]
      refine hk _ ⟨fun k hk2 => ?_, fun k hk2 => ?_, fr_ui hI.2.2 rfl⟩
      · by_cases y : k = i
        · rw [y, ui_s]; exact hI.2.1 _ (by omega)
        · rw [ui_k y]; exact hI.1 k (by omega)
      · rw [ui_k (by omega)]; exact hI.2.1 k (by omega)
    · refine bX12_keep_12 hd (nI (1911 + 49)) A J ?_
      rw [s16, if_neg (by rw [jn_lt (by omega) (by omega)]; omega), hI.2.2 91 31 (by (try dsimp only); omega), h1, q]
      have es : nI 40 - 1 = nI 39 := rfl
      rw [es]
      refine k52 39 _ (by omega) (by rw [q]; rfl) ui_s (fun k hk => ?_) (fr_ui (fr_mo hI.2.2 (fun c k w => Or.inl w)) (Or.inr ⟨rfl, rfl⟩))
      rw [ui_c (by decide), if_pos q]
      exact hI.1 k (by omega)
  · rw [if_neg (by rw [show (40 : Int32) = nI 40 from rfl, jn_eq (by omega) (by omega)]; exact q)]
    exact k52 a I (by omega) (by unfold ctA; rw [if_pos (by omega)]) h1 (fun k _ => by rw [if_neg q]) fr_rf
theorem sdX12_keep : mj_Sd mX12_keep 1 tX12_keep := by
  intro Ω l d hd as M Φ h
  unfold tX12_keep at h
  split at h
  · rename_i z_this
    obtain ⟨⟨rfl, hM⟩, a, hp, h⟩ := h
    rw [mj_isk_of hM]
    exact mnX12_keep hd a _ _ hp (by
      rw [mj_isk_of hM] at h
      exact h)
  · exact h.elim
def csX12_undo : List (Nat × Nat × Nat × mj_PT) := []
theorem csX12_undo_ok : mj_Cs mX12_undo 1 csX12_undo := mj_Cs0
def cutX12_undo : List (Nat × List Bool) := [(21, [true, true])]
set_option maxRecDepth 100000 in
set_option maxHeartbeats 4000000 in
theorem inX12_undo {Ω : mj_Om} {l : Launch} {d : Nat} {Φ : Option Value → mj_M → Prop} (hd : 1 ≤ d) (I : Nat → Nat → Int32) (J : Nat → Nat → Int64)
    (h : ((if (I 91 31) = (0 : Int32) then (Φ (some (.int (-1 : Int32))) (mk I J)) else (mj_G Ω l false mX12_undo d 0 0 Φ 0 0 21 ([some (.ref 91), some (.int (0 : Int32))], [], (mk (mj_ui I 91 31 ((I 91 31) - (1 : Int32))) J)))))) :
    mj_Met Ω l false mX12_undo d 0 0 [.ref 91] (mk I J) Φ := mj_entry (by decide) rfl (fun h => (by cases h)) (Nat.le_of_ble_eq_true rfl) (mj_blk (μ := mX12_undo) (P := pX12_undo) (cut := cutX12_undo) (cs := csX12_undo) dX12_undo csX12_undo_ok hd 35 0 _ h)
set_option maxRecDepth 100000 in
set_option maxHeartbeats 4000000 in
theorem bX12_undo_21 {Ω : mj_Om} {l : Launch} {d : Nat} {Φ : Option Value → mj_M → Prop} (hd : 1 ≤ d) (x1 : Int32) (I : Nat → Nat → Int32) (J : Nat → Nat → Int64)
    (h : ((if x1 < (49 : Int32) then (mj_gd (mj_inB (((49 : Int32) * (I 91 31)) + x1) 1960) (mj_gd (mj_inB x1 49) (mj_G Ω l false mX12_undo d 0 0 Φ 0 0 21 ([some (.ref 91), some (.int (x1 + (1 : Int32)))], [], (mk (mj_ui I 106 (x1).toNatClampNeg (I 110 ((((49 : Int32) * (I 91 31)) + x1)).toNatClampNeg)) J))))) else (Φ (some (.int (I 91 31))) (mk I J))))) :
    mj_G Ω l false mX12_undo d 0 0 Φ 0 0 21 ([some (.ref 91), some (.int x1)], [], mk I J) := mj_blk (μ := mX12_undo) (P := pX12_undo) (cut := cutX12_undo) (cs := csX12_undo) dX12_undo csX12_undo_ok hd 35 21 _ h
def tX12_undo : mj_PT := fun as M Φ => match as with
  | [.ref this] => ((this = 91 ∧ mj_isk M) ∧ (∃ a : Nat, ((M.2.2.1 91 31 = nI a ∧ a ≤ 40) ∧ (∀ I1 : Nat → Nat → Int32, ((a = 0 → I1 = M.2.2.1) ∧ (0 < a → I1 91 31 = nI (a - 1) ∧ (∀ k, k < 49 → I1 106 k = M.2.2.1 110 (49 * (a - 1) + k)) ∧ fr (fun c k => (c = 106 ∧ k < 49) ∨ (c = 91 ∧ k = 31)) M.2.2.1 I1)) → Φ (some (.int (if a = 0 then -1 else nI (a - 1)))) (M.1, M.2.1, I1, M.2.2.2)))))
  | _ => False
set_option maxHeartbeats 4000000 in
theorem mnX12_undo {Ω : mj_Om} {l : Launch} {d : Nat} {Φ : Option Value → mj_M → Prop} (hd : 1 ≤ d) (a : Nat) (I : Nat → Nat → Int32) (J : Nat → Nat → Int64) (hp : I 91 31 = nI a ∧ a ≤ 40) (h : ∀ I1 : Nat → Nat → Int32, ((a = 0 → I1 = I) ∧ (0 < a → I1 91 31 = nI (a - 1) ∧ (∀ k, k < 49 → I1 106 k = I 110 (49 * (a - 1) + k)) ∧ fr (fun c k => (c = 106 ∧ k < 49) ∨ (c = 91 ∧ k = 31)) I I1)) → Φ (some (.int (if a = 0 then -1 else nI (a - 1)))) (mk I1 J)) : mj_Met Ω l false mX12_undo d 0 0 [.ref 91] (mk I J) Φ := by
  refine inX12_undo hd I J ?_
  obtain ⟨h1, ha⟩ := hp
  rw [h1]
  by_cases q : a = 0
  · rw [if_pos (by rw [q]; rfl)]
    have := h I ⟨fun _ => rfl, fun w => absurd w (by omega)⟩
    rwa [if_pos q] at this
  · rw [if_neg (by rw [show (0 : Int32) = nI 0 from rfl, jn_eq (by omega) (by omega)]; exact q)]
    have es : nI a - 1 = nI (a - 1) := jn_sub (a := a) (b := 1) (by omega)
    rw [es]
    rw [if_neg q] at h
    have hA : fr (fun c k => c = 91 ∧ k = 31) I (mj_ui I 91 31 (nI (a - 1))) := fr_ui fr_rf ⟨rfl, rfl⟩
    have h31 : (mj_ui I 91 31 (nI (a - 1))) 91 31 = nI (a - 1) := ui_s
    generalize mj_ui I 91 31 (nI (a - 1)) = A at hA h31 ⊢
    refine lp_inv (σ := Nat → Nat → Int32) (n := 49) (G := fun i B => mj_G Ω l false mX12_undo d 0 0 Φ 0 0 21 ([some (.ref 91), some (.int (nI i))], [], mk B J)) (fun i B => kpP A 110 106 0 (49 * (a - 1)) i B) (fun i B hi hI hk => ?_) (fun B hI => ?_) 49 0 A (by omega) kpP_0
    · refine bX12_undo_21 hd (nI i) B J ?_
      rw [hI.2.2 91 31 (by (try dsimp only); omega), h31, if_pos (show nI i < (49 : Int32) by rw [show (49 : Int32) = nI 49 from rfl, jn_lt (by omega) (by omega)]; exact hi)]
      have e5 : (49 : Int32) * nI (a - 1) + nI i = nI (49 * (a - 1) + i) := by rw [show (49 : Int32) = nI 49 from rfl, jn_mul, jn_add]
      rw [e5]
      simp (disch := omega) only [jn_in, jn_cl, gd_dec, jn_succ]
      have := kpP_up (by decide) hI
      rw [Nat.zero_add] at this
      exact hk _ this
    · refine bX12_undo_21 hd (nI 49) B J ?_
      rw [hI.2.2 91 31 (by (try dsimp only); omega), h31, if_neg (by decide)]
      refine h B ⟨fun w => absurd w q, fun _ => ⟨by rw [hI.2.2 91 31 (by (try dsimp only); omega)]; exact h31, fun k hk => ?_, fun x k w => ?_⟩⟩
      · have := hI.1 k hk
        rw [Nat.zero_add] at this
        rw [this, hA 110 _ (by (try dsimp only); omega)]
      · try dsimp only at w
        by_cases y : x = 106
        · rw [y, hI.2.1 k (by omega), hA 106 k (by (try dsimp only); omega)]
        · rw [hI.2.2 x k y, hA x k (by (try dsimp only); omega)]
theorem sdX12_undo : mj_Sd mX12_undo 1 tX12_undo := by
  intro Ω l d hd as M Φ h
  unfold tX12_undo at h
  split at h
  · rename_i z_this
    obtain ⟨⟨rfl, hM⟩, a, hp, h⟩ := h
    rw [mj_isk_of hM]
    exact mnX12_undo hd a _ _ hp (by
      rw [mj_isk_of hM] at h
      exact h)
  · exact h.elim
/-- a boat of the reference as it is begun -/
def bgV (I : Nat → Nat → Int32) (b j : Nat) : Int32 := match j with
  | 0 => I 105 (6 * b)
  | 1 => I 105 (6 * b + 1)
  | 2 => I 105 (6 * b + 2)
  | 3 => if I 105 (6 * b + 5) = 4 then -1 else I 105 (6 * b + 5)
  | _ => 0
def csX12_begin : List (Nat × Nat × Nat × mj_PT) := [(274, 0, 4, mj_rcv 12 tX12_put_)]
theorem csX12_begin_ok : mj_Cs mX12_begin 2 csX12_begin := (mj_CsV (D' := 1) (ci := 12) (q := (RX12, TX12, 45)) sdX12_put_ (Nat.le_of_ble_eq_true rfl) fX12_put_ rfl rfl iX12_put_ vX12_put_ (by decide +kernel) l12_274 mj_Cs0)
def cutX12_begin : List (Nat × List Bool) := [(2, [true, true])]
def pX12_begin_0 : List (Nat × Instr × Nat) := [(0, .iconst 0, 1), (1, .istore_n 1, 1), (2, .iload_n 1, 1)]
set_option maxRecDepth 100000 in
theorem dX12_begin_0 : mj_pd cX12_begin pX12_begin_0 := mj_pdB (by decide +kernel)
set_option maxRecDepth 100000 in
set_option maxHeartbeats 4000000 in
theorem inX12_begin {Ω : mj_Om} {l : Launch} {d : Nat} {Φ : Option Value → mj_M → Prop} (hd : 2 ≤ d) (I : Nat → Nat → Int32) (J : Nat → Nat → Int64)
    (h : ((mj_G Ω l false mX12_begin d 0 0 Φ 0 0 2 ([some (.ref 91), some (.int (0 : Int32))], [], (mk I J))))) :
    mj_Met Ω l false mX12_begin d 0 0 [.ref 91] (mk I J) Φ := mj_entry (by decide) rfl (fun h => (by cases h)) (Nat.le_of_ble_eq_true rfl) (mj_blk (μ := mX12_begin) (P := pX12_begin_0) (cut := cutX12_begin) (cs := csX12_begin) dX12_begin_0 csX12_begin_ok hd 4 0 _ h)
def pX12_begin_2 : List (Nat × Instr × Nat) := [(2, .iload_n 1, 1), (3, .aload_n 0, 1), (4, .getfield 255, 3), (7, .if_icmp .ge 110, 3), (10, .aload_n 0, 1), (11, .iload_n 1, 1), (12, .iconst 0, 1), (13, .aload_n 0, 1), (14, .getfield 49, 3), (17, .bipush 6, 2), (19, .iload_n 1, 1), (20, .imul, 1), (21, .iconst 0, 1), (22, .iadd, 1), (23, .iaload, 1), (24, .invokevirtual 274, 3), (27, .aload_n 0, 1), (28, .iload_n 1, 1), (29, .iconst 1, 1), (30, .aload_n 0, 1), (31, .getfield 49, 3), (34, .bipush 6, 2), (36, .iload_n 1, 1), (37, .imul, 1), (38, .iconst 1, 1), (39, .iadd, 1), (40, .iaload, 1), (41, .invokevirtual 274, 3), (44, .aload_n 0, 1), (45, .iload_n 1, 1), (46, .iconst 2, 1), (47, .aload_n 0, 1), (48, .getfield 49, 3), (51, .bipush 6, 2), (53, .iload_n 1, 1), (54, .imul, 1), (55, .iconst 2, 1), (56, .iadd, 1), (57, .iaload, 1), (58, .invokevirtual 274, 3), (61, .aload_n 0, 1), (62, .iload_n 1, 1), (63, .iconst 3, 1), (64, .aload_n 0, 1), (65, .getfield 49, 3), (68, .bipush 6, 2), (70, .iload_n 1, 1), (71, .imul, 1), (72, .iconst 5, 1), (73, .iadd, 1), (74, .iaload, 1), (75, .iconst 4, 1), (76, .if_icmp .ne 7, 3), (79, .iconst (-1), 1), (80, .goto 14, 3), (83, .aload_n 0, 1), (84, .getfield 49, 3), (87, .bipush 6, 2), (89, .iload_n 1, 1), (90, .imul, 1), (91, .iconst 5, 1), (92, .iadd, 1), (93, .iaload, 1), (94, .invokevirtual 274, 3), (97, .aload_n 0, 1), (98, .iload_n 1, 1), (99, .iconst 4, 1), (100, .iconst 0, 1), (101, .invokevirtual 274, 3), (104, .aload_n 0, 1), (105, .iload_n 1, 1), (106, .iconst 5, 1), (107, .iconst 0, 1), (108, .invokevirtual 274, 3), (111, .iinc 1 1, 3), (114, .goto (-112), 3), (117, .aload_n 0, 1), (118, .getfield 52, 3), (121, .bipush 48, 2), (123, .iconst 0, 1), (124, .iastore, 1), (125, .return_, 1)]
set_option maxRecDepth 100000 in
theorem dX12_begin_2 : mj_pd cX12_begin pX12_begin_2 := mj_pdB (by decide +kernel)
set_option maxRecDepth 100000 in
set_option maxHeartbeats 4000000 in
theorem bX12_begin_2 {Ω : mj_Om} {l : Launch} {d : Nat} {Φ : Option Value → mj_M → Prop} (hd : 2 ≤ d) (x1 : Int32) (I : Nat → Nat → Int32) (J : Nat → Nat → Int64)
    (h : ((if x1 < (I 91 22) then (mj_gd (mj_inB (((6 : Int32) * x1) + (0 : Int32)) 48) (mj_gd (mj_inB (((6 : Int32) * x1) + (0 : Int32)) 49) (mj_gd (mj_inB (((6 : Int32) * x1) + (1 : Int32)) 48) (mj_gd (mj_inB (((6 : Int32) * x1) + (1 : Int32)) 49) (mj_gd (mj_inB (((6 : Int32) * x1) + (2 : Int32)) 48) (mj_gd (mj_inB (((6 : Int32) * x1) + (2 : Int32)) 49) (mj_gd (mj_inB (((6 : Int32) * x1) + (5 : Int32)) 48) (if (I 105 ((((6 : Int32) * x1) + (5 : Int32))).toNatClampNeg) = (4 : Int32) then (mj_gd (mj_inB (((6 : Int32) * x1) + (3 : Int32)) 49) (mj_gd (mj_inB (((6 : Int32) * x1) + (4 : Int32)) 49) (mj_gd (mj_inB (((6 : Int32) * x1) + (5 : Int32)) 49) (mj_G Ω l false mX12_begin d 0 0 Φ 0 0 2 ([some (.ref 91), some (.int (x1 + (1 : Int32)))], [], (mk (mj_ui (mj_ui (mj_ui (mj_ui (mj_ui (mj_ui I 106 ((((6 : Int32) * x1) + (0 : Int32))).toNatClampNeg (I 105 ((((6 : Int32) * x1) + (0 : Int32))).toNatClampNeg)) 106 ((((6 : Int32) * x1) + (1 : Int32))).toNatClampNeg (I 105 ((((6 : Int32) * x1) + (1 : Int32))).toNatClampNeg)) 106 ((((6 : Int32) * x1) + (2 : Int32))).toNatClampNeg (I 105 ((((6 : Int32) * x1) + (2 : Int32))).toNatClampNeg)) 106 ((((6 : Int32) * x1) + (3 : Int32))).toNatClampNeg (-1 : Int32)) 106 ((((6 : Int32) * x1) + (4 : Int32))).toNatClampNeg (0 : Int32)) 106 ((((6 : Int32) * x1) + (5 : Int32))).toNatClampNeg (0 : Int32)) J)))))) else (mj_gd (mj_inB (((6 : Int32) * x1) + (5 : Int32)) 48) (mj_gd (mj_inB (((6 : Int32) * x1) + (3 : Int32)) 49) (mj_gd (mj_inB (((6 : Int32) * x1) + (4 : Int32)) 49) (mj_gd (mj_inB (((6 : Int32) * x1) + (5 : Int32)) 49) (mj_G Ω l false mX12_begin d 0 0 Φ 0 0 2 ([some (.ref 91), some (.int (x1 + (1 : Int32)))], [], (mk (mj_ui (mj_ui (mj_ui (mj_ui (mj_ui (mj_ui I 106 ((((6 : Int32) * x1) + (0 : Int32))).toNatClampNeg (I 105 ((((6 : Int32) * x1) + (0 : Int32))).toNatClampNeg)) 106 ((((6 : Int32) * x1) + (1 : Int32))).toNatClampNeg (I 105 ((((6 : Int32) * x1) + (1 : Int32))).toNatClampNeg)) 106 ((((6 : Int32) * x1) + (2 : Int32))).toNatClampNeg (I 105 ((((6 : Int32) * x1) + (2 : Int32))).toNatClampNeg)) 106 ((((6 : Int32) * x1) + (3 : Int32))).toNatClampNeg (I 105 ((((6 : Int32) * x1) + (5 : Int32))).toNatClampNeg)) 106 ((((6 : Int32) * x1) + (4 : Int32))).toNatClampNeg (0 : Int32)) 106 ((((6 : Int32) * x1) + (5 : Int32))).toNatClampNeg (0 : Int32)) J))))))))))))))) else (Φ none (mk (mj_ui I 106 48 (0 : Int32)) J))))) :
    mj_G Ω l false mX12_begin d 0 0 Φ 0 0 2 ([some (.ref 91), some (.int x1)], [], mk I J) := mj_blk (μ := mX12_begin) (P := pX12_begin_2) (cut := cutX12_begin) (cs := csX12_begin) dX12_begin_2 csX12_begin_ok hd 83 2 _ h
def tX12_begin : mj_PT := fun as M Φ => match as with
  | [.ref this] => ((this = 91 ∧ mj_isk M) ∧ ((okM M.2.2.1) ∧ (∀ I1 : Nat → Nat → Int32, ((∀ b j, b < nM M.2.2.1 → j < 6 → I1 106 (6 * b + j) = bgV M.2.2.1 b j) ∧ I1 106 48 = 0 ∧ fr (fun c k => c = 106 ∧ k < 49) M.2.2.1 I1) → Φ none (M.1, M.2.1, I1, M.2.2.2))))
  | _ => False
set_option maxHeartbeats 4000000 in
theorem mnX12_begin {Ω : mj_Om} {l : Launch} {d : Nat} {Φ : Option Value → mj_M → Prop} (hd : 2 ≤ d) (I : Nat → Nat → Int32) (J : Nat → Nat → Int64) (hp : okM I) (h : ∀ I1 : Nat → Nat → Int32, ((∀ b j, b < nM I → j < 6 → I1 106 (6 * b + j) = bgV I b j) ∧ I1 106 48 = 0 ∧ fr (fun c k => c = 106 ∧ k < 49) I I1) → Φ none (mk I1 J)) : mj_Met Ω l false mX12_begin d 0 0 [.ref 91] (mk I J) Φ := by
  refine inX12_begin hd I J ?_
  obtain ⟨hc, hn⟩ := hp
  refine lp_inv (σ := Nat → Nat → Int32) (n := nM I) (G := fun i A => mj_G Ω l false mX12_begin d 0 0 Φ 0 0 2 ([some (.ref 91), some (.int (nI i))], [], mk A J)) (fun i A => (∀ b j, b < i → j < 6 → A 106 (6 * b + j) = bgV I b j) ∧ fr (fun c k => c = 106 ∧ k < 49) I A) (fun i A hi hI hk => ?_) (fun A hI => ?_) (nM I) 0 I (by omega) ⟨fun b j hb => absurd hb (Nat.not_lt_zero b), fr_rf⟩
  · refine bX12_begin_2 hd (nI i) A J ?_
    obtain ⟨hall, hfr⟩ := hI
    rw [hfr 91 22 (by (try dsimp only); omega), hc, if_pos (by rw [jn_lt (by omega) (by omega)]; exact hi)]
    have r5 : ∀ k, A 105 k = I 105 k := fun k => hfr 105 k (by (try dsimp only); omega)
    simp (disch := omega) only [jn_in, jn_cl, gd_dec, jn_succ, n6_0, n6_1, n6_2, n6_3, n6_4, n6_5, r5]
    have done : ∀ y : Int32, y = bgV I i 3 → mj_G Ω l false mX12_begin d 0 0 Φ 0 0 2 ([some (.ref 91), some (.int (nI (i + 1)))], [], mk (mj_ui (mj_ui (mj_ui (mj_ui (mj_ui (mj_ui A 106 (6 * i) (I 105 (6 * i))) 106 (6 * i + 1) (I 105 (6 * i + 1))) 106 (6 * i + 2) (I 105 (6 * i + 2))) 106 (6 * i + 3) y) 106 (6 * i + 4) 0) 106 (6 * i + 5) 0) J) := by
      intro y hy
      refine hk _ ⟨fun b j hb hj => ?_, fr_ui (fr_ui (fr_ui (fr_ui (fr_ui (fr_ui hfr ⟨rfl, by omega⟩) ⟨rfl, by omega⟩) ⟨rfl, by omega⟩) ⟨rfl, by omega⟩) ⟨rfl, by omega⟩) ⟨rfl, by omega⟩⟩
      by_cases z : b = i
      · subst z
        have c6 : j = 0 ∨ j = 1 ∨ j = 2 ∨ j = 3 ∨ j = 4 ∨ j = 5 := by omega
        rcases c6 with rfl | rfl | rfl | rfl | rfl | rfl
        · rw [ui_k (by omega), ui_k (by omega), ui_k (by omega), ui_k (by omega), ui_k (by omega)]; exact ui_s
        · rw [ui_k (by omega), ui_k (by omega), ui_k (by omega), ui_k (by omega)]; exact ui_s
        · rw [ui_k (by omega), ui_k (by omega), ui_k (by omega)]; exact ui_s
        · rw [ui_k (by omega), ui_k (by omega), ui_s, hy]
        · rw [ui_k (by omega)]; exact ui_s
        · exact ui_s
      · rw [ui_k (by omega), ui_k (by omega), ui_k (by omega), ui_k (by omega), ui_k (by omega), ui_k (by omega)]
        exact hall b j (by omega) hj
    split
    · rename_i q
      try simp (disch := omega) only [jn_in, jn_cl, gd_dec, jn_succ, n6_0, n6_1, n6_2, n6_3, n6_4, n6_5, r5]
      exact done (-1) (by unfold bgV; simp only; rw [if_pos q])
    · rename_i q
      try simp (disch := omega) only [jn_in, jn_cl, gd_dec, jn_succ, n6_0, n6_1, n6_2, n6_3, n6_4, n6_5, r5]
      exact done _ (by unfold bgV; simp only; rw [if_neg q])
  · refine bX12_begin_2 hd (nI (nM I)) A J ?_
    rw [hI.2 91 22 (by (try dsimp only); omega), hc, if_neg (by rw [jn_lt (by omega) (by omega)]; omega)]
    refine h _ ⟨fun b j hb hj => ?_, ui_s, fr_ui hI.2 ⟨rfl, by decide⟩⟩
    rw [ui_k (by omega)]
    exact hI.1 b j hb hj
theorem sdX12_begin : mj_Sd mX12_begin 2 tX12_begin := by
  intro Ω l d hd as M Φ h
  unfold tX12_begin at h
  split at h
  · rename_i z_this
    obtain ⟨⟨rfl, hM⟩, hp, h⟩ := h
    rw [mj_isk_of hM]
    exact mnX12_begin hd _ _ hp (by
      rw [mj_isk_of hM] at h
      exact h)
  · exact h.elim
