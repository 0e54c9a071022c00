/-! ===== the reference's reader of rules: sums (by program, wip/whole/p79.py) ===== -/
def dFr (c k : Nat) : Prop := c = 91 ∧ (k = 3 ∨ k = 4 ∨ k = 5)
def mF (x c k : Nat) : Prop := (c = 91 ∧ (k = 3 ∨ k = 4 ∨ k = 5)) ∨ ((c = 93 ∨ c = 94) ∧ 520 * x ≤ k ∧ k < 520 * x + 520) ∨ (c = 95 ∧ k = x)
def CdM (I : Nat → Nat → Int32) (x n : Nat) (xs : List Int32) (B : Nat → Nat → Int32) : Prop := I 95 x = nI (n + xs.length) ∧ (∀ j, j < xs.length → cmR (I 93 (520 * x + (n + j))) (I 94 (520 * x + (n + j))) (xs.getD j 0)) ∧ ∀ j, j < n → I 93 (520 * x + j) = B 93 (520 * x + j) ∧ I 94 (520 * x + j) = B 94 (520 * x + j)
def prM (I : Nat → Nat → Int32) (t : Nat) (τ : Nat → Int32) (p n w x z : Nat) : Prop := TM I t τ ∧ I 91 3 = nI p ∧ p ≤ t ∧ I 91 4 = -1 ∧ I 91 5 = nI w ∧ I 91 14 = nI x ∧ x ≤ 4 ∧ I 95 x = nI n ∧ n + z ≤ p
def erM (I1 : Nat → Nat → Int32) (t w x z e : Nat) : Prop := I1 91 4 = nI e ∧ ∃ a c, I1 91 3 = nI a ∧ a ≤ t + (7 - w) ∧ I1 95 x = nI c ∧ c + z ≤ a
def wrM (r : PR) (t w n x z : Nat) (I I1 : Nat → Nat → Int32) : Prop := fr (mF x) I I1 ∧ (∀ e, r = .error e → e ≤ 300 ∧ erM I1 t w x z e) ∧ (∀ q, r = .ok q → I1 91 3 = nI q.1 ∧ I1 91 4 = -1 ∧ I1 91 5 = nI w ∧ CdM I1 x n q.2 I)
def pFr (c k : Nat) : Prop := c = 91 ∧ (k = 3 ∨ k = 4)
theorem p_dF {I I1 : Nat → Nat → Int32} (h : fr pFr I I1) : fr dFr I I1 := fr_mo h (fun c k q => ⟨q.1, q.2.elim Or.inl (fun y => Or.inr (Or.inl y))⟩)
theorem m_pF {I I1 : Nat → Nat → Int32} (h : fr mFr I I1) : fr pFr I I1 := fr_mo h (fun c k q => ⟨q.1, Or.inl q.2⟩)
theorem d_mF {x : Nat} {I I1 : Nat → Nat → Int32} (h : fr dFr I I1) : fr (mF x) I I1 := fr_mo h (fun c k q => Or.inl q)
theorem m_dF {I I1 : Nat → Nat → Int32} (h : fr mFr I I1) : fr dFr I I1 := fr_mo h (fun c k q => ⟨q.1, Or.inl q.2⟩)
theorem TM_d {I I1 : Nat → Nat → Int32} {t : Nat} {τ : Nat → Int32} (h : TM I t τ) (e : fr dFr I I1) : TM I1 t τ := TM_fr h (e 91 2 (by unfold dFr; omega)) (fun k => e 92 k (by unfold dFr; omega))
theorem TM_m {x : Nat} {I I1 : Nat → Nat → Int32} {t : Nat} {τ : Nat → Int32} (h : TM I t τ) (e : fr (mF x) I I1) : TM I1 t τ := TM_fr h (e 91 2 (by unfold mF; omega)) (fun k => e 92 k (by unfold mF; omega))
theorem mF_14 {x : Nat} {I I1 : Nat → Nat → Int32} (e : fr (mF x) I I1) : I1 91 14 = I 91 14 := e 91 14 (by unfold mF; omega)
theorem d_95 {x : Nat} {I I1 : Nat → Nat → Int32} (e : fr dFr I I1) : I1 95 x = I 95 x := e 95 x (by unfold dFr; omega)
theorem d_14 {I I1 : Nat → Nat → Int32} (e : fr dFr I I1) : I1 91 14 = I 91 14 := e 91 14 (by unfold dFr; omega)
theorem CdM_0 {I : Nat → Nat → Int32} {x n : Nat} (h : I 95 x = nI n) : CdM I x n [] I := ⟨h, fun j hj => absurd hj (Nat.not_lt_zero j), fun _ _ => ⟨rfl, rfl⟩⟩
theorem CdM_d {I I1 B : Nat → Nat → Int32} {x n : Nat} {xs : List Int32} (h : CdM I x n xs B) (e : fr dFr I I1) : CdM I1 x n xs B := ⟨by rw [d_95 e]; exact h.1, fun j hj => by rw [e 93 _ (by unfold dFr; omega), e 94 _ (by unfold dFr; omega)]; exact h.2.1 j hj, fun j hj => by rw [e 93 _ (by unfold dFr; omega), e 94 _ (by unfold dFr; omega)]; exact h.2.2 j hj⟩
theorem CdM_b {I B B' : Nat → Nat → Int32} {x n : Nat} {xs : List Int32} (h : CdM I x n xs B) (e : fr dFr B' B) : CdM I x n xs B' := ⟨h.1, h.2.1, fun j hj => by rw [← e 93 _ (by unfold dFr; omega), ← e 94 _ (by unfold dFr; omega)]; exact h.2.2 j hj⟩
theorem CdM_app {I I1 B : Nat → Nat → Int32} {x n : Nat} {xs ys : List Int32} (h : CdM I x n xs B) (h2 : CdM I1 x (n + xs.length) ys I) : CdM I1 x n (xs ++ ys) B := by
  refine ⟨by rw [List.length_append, ← Nat.add_assoc]; exact h2.1, fun j hj => ?_, fun j hj => ?_⟩
  · by_cases q : j < xs.length
    · rw [gd_l q, (h2.2.2 _ (by omega)).1, (h2.2.2 _ (by omega)).2]; exact h.2.1 j q
    · rw [List.length_append] at hj
      have := h2.2.1 (j - xs.length) (by omega)
      rw [show n + xs.length + (j - xs.length) = n + j by omega] at this
      rw [gd_r (by omega)]
      exact this
  · rw [(h2.2.2 j (by omega)).1, (h2.2.2 j (by omega)).2]; exact h.2.2 j hj
theorem pu93 {I : Nat → Nat → Int32} {x o k : Nat} {c v y : Int32} : (mj_ui (mj_ui (mj_ui I 93 o c) 94 o v) 95 x y) 93 k = if k = o then c else I 93 k := by
  rw [ui_c (by decide), ui_c (by decide)]
  by_cases q : k = o
  · rw [if_pos q, q, ui_s]
  · rw [if_neg q, ui_k q]
theorem pu94 {I : Nat → Nat → Int32} {x o k : Nat} {c v y : Int32} : (mj_ui (mj_ui (mj_ui I 93 o c) 94 o v) 95 x y) 94 k = if k = o then v else I 94 k := by
  rw [ui_c (by decide)]
  by_cases q : k = o
  · rw [if_pos q, q, ui_s]
  · rw [if_neg q, ui_k q, ui_c (by decide)]
theorem CdM_up {I B : Nat → Nat → Int32} {x n m : Nat} {xs : List Int32} {c v y : Int32} (h : CdM I x n xs B) (hm : m = n + xs.length) (hy : cmR c v y) : CdM (mj_ui (mj_ui (mj_ui I 93 (520 * x + m) c) 94 (520 * x + m) v) 95 x (nI (m + 1))) x n (xs ++ [y]) B := by
  subst hm
  refine ⟨by rw [ui_s, List.length_append, List.length_singleton, Nat.add_assoc], fun j hj => ?_, fun j hj => ?_⟩
  · rw [pu93, pu94]
    by_cases q : j < xs.length
    · rw [gd_l q, if_neg (by omega), if_neg (by omega)]; exact h.2.1 j q
    · rw [List.length_append, List.length_singleton] at hj
      have e : j = xs.length := by omega
      subst e
      rw [gd_r (Nat.le_refl _), Nat.sub_self, if_pos rfl, if_pos rfl]; exact hy
  · rw [pu93, pu94, if_neg (by omega), if_neg (by omega)]; exact h.2.2 j hj
theorem fr_put {I I1 : Nat → Nat → Int32} {x n : Nat} {c v y : Int32} (h : fr (mF x) I I1) (hn : n < 520) : fr (mF x) I (mj_ui (mj_ui (mj_ui I1 93 (520 * x + n) c) 94 (520 * x + n) v) 95 x y) :=
  fr_ui (fr_ui (fr_ui h (Or.inr (Or.inl ⟨Or.inl rfl, by omega, by omega⟩))) (Or.inr (Or.inl ⟨Or.inr rfl, by omega, by omega⟩))) (Or.inr (Or.inr ⟨rfl, rfl⟩))
theorem cm_num {v : Nat} (h : v < 10000) : cmR 0 (nI v) (nI v) := by
  have e := jn_toInt (a := v) (by omega)
  refine ⟨by decide, rfl, fun _ => by rw [e]; omega, fun q => absurd q (by decide)⟩
theorem cm_let {y : Int32} (h : 0 ≤ y.toInt ∧ y.toInt < 7) : cmR 1 y (10000 + y) := by
  have e : (10000 + y).toInt = 10000 + y.toInt := i_add (x := 10000) (by rw [show (10000 : Int32).toInt = 10000 from rfl]; omega)
  exact ⟨by decide, by rw [e]; rfl, fun q => absurd q (by decide), fun _ => h⟩
theorem nI_n1 {k : Nat} (h : k ≤ 300) : ¬ nI k = -1 := nI_mm (by omega)
def csX12_putS : List (Nat × Nat × Nat × mj_PT) := []
theorem csX12_putS_ok : mj_Cs mX12_put 1 csX12_putS := mj_Cs0
def cutX12_putS : List (Nat × List Bool) := []
set_option maxRecDepth 100000 in
set_option maxHeartbeats 4000000 in
theorem inX12_putS {Ω : mj_Om} {l : Launch} {d : Nat} {Φ : Option Value → mj_M → Prop} (hd : 1 ≤ d) (c : Int32) (v : Int32) (I : Nat → Nat → Int32) (J : Nat → Nat → Int64)
    (h : ((mj_gd (mj_inB (I 91 14) 5) (mj_gd (mj_inB (((520 : Int32) * (I 91 14)) + (I 95 ((I 91 14)).toNatClampNeg)) 2600) (mj_gd (mj_inB (I 91 14) 5) (mj_gd (mj_inB (((520 : Int32) * (I 91 14)) + (I 95 ((I 91 14)).toNatClampNeg)) 2600) (mj_gd (mj_inB (I 91 14) 5) (mj_gd (mj_inB (I 91 14) 5) (Φ none (mk (mj_ui (mj_ui (mj_ui I 93 ((((520 : Int32) * (I 91 14)) + (I 95 ((I 91 14)).toNatClampNeg))).toNatClampNeg c) 94 ((((520 : Int32) * (I 91 14)) + (I 95 ((I 91 14)).toNatClampNeg))).toNatClampNeg v) 95 ((I 91 14)).toNatClampNeg ((I 95 ((I 91 14)).toNatClampNeg) + (1 : Int32))) J)))))))))) :
    mj_Met Ω l false mX12_put d 0 0 [.ref 91, .int c, .int v] (mk I J) Φ := mj_entry (by decide) rfl (fun h => (by cases h)) (Nat.le_of_ble_eq_true rfl) (mj_blk (μ := mX12_put) (P := pX12_put) (cut := cutX12_putS) (cs := csX12_putS) dX12_put csX12_putS_ok hd 39 0 _ h)
def tX12_putS : mj_PT := fun as M Φ => match as with
  | [.ref this, .int c, .int v] => ((this = 91 ∧ mj_isk M) ∧ (∃ x : Nat, (∃ n : Nat, ((M.2.2.1 91 14 = nI x ∧ x ≤ 4 ∧ M.2.2.1 95 x = nI n ∧ n < 520) ∧ (∀ I1 : Nat → Nat → Int32, (I1 = mj_ui (mj_ui (mj_ui M.2.2.1 93 (520 * x + n) c) 94 (520 * x + n) v) 95 x (nI (n + 1))) → Φ none (M.1, M.2.1, I1, M.2.2.2))))))
  | _ => False
set_option maxHeartbeats 4000000 in
theorem mnX12_putS {Ω : mj_Om} {l : Launch} {d : Nat} {Φ : Option Value → mj_M → Prop} (hd : 1 ≤ d) (c : Int32) (v : Int32) (x : Nat) (n : Nat) (I : Nat → Nat → Int32) (J : Nat → Nat → Int64) (hp : I 91 14 = nI x ∧ x ≤ 4 ∧ I 95 x = nI n ∧ n < 520) (h : ∀ I1 : Nat → Nat → Int32, (I1 = mj_ui (mj_ui (mj_ui I 93 (520 * x + n) c) 94 (520 * x + n) v) 95 x (nI (n + 1))) → Φ none (mk I1 J)) : mj_Met Ω l false mX12_put d 0 0 [.ref 91, .int c, .int v] (mk I J) Φ := by
  refine inX12_putS hd c v I J ?_
  obtain ⟨h1, h2, h3, h4⟩ := hp
  have e520 : (520 : Int32) * nI x + nI n = nI (520 * x + n) := by rw [show (520 : Int32) = nI 520 from rfl, jn_mul, jn_add]
  rw [h1]
  simp (disch := omega) only [jn_in, jn_cl, gd_dec]
  rw [h3]
  simp (disch := omega) only [jn_in, jn_cl, gd_dec, e520]
  rw [jn_succ]
  exact h _ rfl
theorem sdX12_putS : mj_Sd mX12_put 1 tX12_putS := by
  intro Ω l d hd as M Φ h
  unfold tX12_putS at h
  split at h
  · rename_i z_this c v
    obtain ⟨⟨rfl, hM⟩, x, n, hp, h⟩ := h
    rw [mj_isk_of hM]
    exact mnX12_putS hd c v x n _ _ hp (by
      rw [mj_isk_of hM] at h
      exact h)
  · exact h.elim
def csX12_letterOfS : List (Nat × Nat × Nat × mj_PT) := []
theorem csX12_letterOfS_ok : mj_Cs mX12_letterOf 1 csX12_letterOfS := mj_Cs0
def cutX12_letterOfS : List (Nat × List Bool) := []
set_option maxRecDepth 100000 in
set_option maxHeartbeats 4000000 in
theorem inX12_letterOfS {Ω : mj_Om} {l : Launch} {d : Nat} {Φ : Option Value → mj_M → Prop} (hd : 1 ≤ d) (c : Int32) (I : Nat → Nat → Int32) (J : Nat → Nat → Int64)
    (h : ((if c = (98 : Int32) then (Φ (some (.int (0 : Int32))) (mk I J)) else (if c = (116 : Int32) then (Φ (some (.int (1 : Int32))) (mk I J)) else (if c = (118 : Int32) then (Φ (some (.int (2 : Int32))) (mk I J)) else (if c = (120 : Int32) then (Φ (some (.int (3 : Int32))) (mk I J)) else (if c = (99 : Int32) then (Φ (some (.int (4 : Int32))) (mk I J)) else (if c = (119 : Int32) then (Φ (some (.int (5 : Int32))) (mk I J)) else (if c = (108 : Int32) then (Φ (some (.int (6 : Int32))) (mk I J)) else (Φ (some (.int (-1 : Int32))) (mk I J))))))))))) :
    mj_Met Ω l false mX12_letterOf d 0 0 [.int c] (mk I J) Φ := mj_entry (by decide) rfl (fun h => (by cases h)) (Nat.le_of_ble_eq_true rfl) (mj_blk (μ := mX12_letterOf) (P := pX12_letterOf) (cut := cutX12_letterOfS) (cs := csX12_letterOfS) dX12_letterOf csX12_letterOfS_ok hd 38 0 _ h)
def tX12_letterOfS : mj_PT := fun as M Φ => match as with
  | [.int c] => ((mj_isk M) ∧ Φ (some (.int (ltr c))) M)
  | _ => False
theorem mnX12_letterOfS {Ω : mj_Om} {l : Launch} {d : Nat} {Φ : Option Value → mj_M → Prop} (hd : 1 ≤ d) (c : Int32) (I : Nat → Nat → Int32) (J : Nat → Nat → Int64) (h : Φ (some (.int (ltr c))) (mk I J)) : mj_Met Ω l false mX12_letterOf d 0 0 [.int c] (mk I J) Φ := by
  refine inX12_letterOfS hd c I J ?_
  by_cases q0 : c = 98
  · rw [if_pos q0]; unfold ltr at h; rw [if_pos q0] at h; exact h
  rw [if_neg q0]
  by_cases q1 : c = 116
  · rw [if_pos q1]; unfold ltr at h; rw [if_neg q0, if_pos q1] at h; exact h
  rw [if_neg q1]
  by_cases q2 : c = 118
  · rw [if_pos q2]; unfold ltr at h; rw [if_neg q0, if_neg q1, if_pos q2] at h; exact h
  rw [if_neg q2]
  by_cases q3 : c = 120
  · rw [if_pos q3]; unfold ltr at h; rw [if_neg q0, if_neg q1, if_neg q2, if_pos q3] at h; exact h
  rw [if_neg q3]
  by_cases q4 : c = 99
  · rw [if_pos q4]; unfold ltr at h; rw [if_neg q0, if_neg q1, if_neg q2, if_neg q3, if_pos q4] at h; exact h
  rw [if_neg q4]
  by_cases q5 : c = 119
  · rw [if_pos q5]; unfold ltr at h; rw [if_neg q0, if_neg q1, if_neg q2, if_neg q3, if_neg q4, if_pos q5] at h; exact h
  rw [if_neg q5]
  by_cases q6 : c = 108
  · rw [if_pos q6]; unfold ltr at h; rw [if_neg q0, if_neg q1, if_neg q2, if_neg q3, if_neg q4, if_neg q5, if_pos q6] at h; exact h
  rw [if_neg q6]
  unfold ltr at h; rw [if_neg q0, if_neg q1, if_neg q2, if_neg q3, if_neg q4, if_neg q5, if_neg q6] at h; exact h
theorem sdX12_letterOfS : mj_Sd mX12_letterOf 1 tX12_letterOfS := by
  intro Ω l d hd as M Φ h
  unfold tX12_letterOfS at h
  split at h
  · rename_i c
    obtain ⟨hM, h⟩ := h
    rw [mj_isk_of hM]
    exact mnX12_letterOfS hd c _ _ (by
      rw [mj_isk_of hM] at h
      exact h)
  · exact h.elim
def csX12_isSignS : List (Nat × Nat × Nat × mj_PT) := []
theorem csX12_isSignS_ok : mj_Cs mX12_isSign 1 csX12_isSignS := mj_Cs0
def cutX12_isSignS : List (Nat × List Bool) := []
set_option maxRecDepth 100000 in
set_option maxHeartbeats 4000000 in
theorem inX12_isSignS {Ω : mj_Om} {l : Launch} {d : Nat} {Φ : Option Value → mj_M → Prop} (hd : 1 ≤ d) (c : Int32) (I : Nat → Nat → Int32) (J : Nat → Nat → Int64)
    (h : ((if c = (61 : Int32) then (Φ (some (.int (1 : Int32))) (mk I J)) else (if c = (60 : Int32) then (Φ (some (.int (1 : Int32))) (mk I J)) else (if c = (62 : Int32) then (Φ (some (.int (1 : Int32))) (mk I J)) else (Φ (some (.int (0 : Int32))) (mk I J))))))) :
    mj_Met Ω l false mX12_isSign d 0 0 [.int c] (mk I J) Φ := mj_entry (by decide) rfl (fun h => (by cases h)) (Nat.le_of_ble_eq_true rfl) (mj_blk (μ := mX12_isSign) (P := pX12_isSign) (cut := cutX12_isSignS) (cs := csX12_isSignS) dX12_isSign csX12_isSignS_ok hd 14 0 _ h)
def tX12_isSignS : mj_PT := fun as M Φ => match as with
  | [.int c] => ((mj_isk M) ∧ Φ (some (.int (b2i (¬ cmO c = 0)))) M)
  | _ => False
theorem mnX12_isSignS {Ω : mj_Om} {l : Launch} {d : Nat} {Φ : Option Value → mj_M → Prop} (hd : 1 ≤ d) (c : Int32) (I : Nat → Nat → Int32) (J : Nat → Nat → Int64) (h : Φ (some (.int (b2i (¬ cmO c = 0)))) (mk I J)) : mj_Met Ω l false mX12_isSign d 0 0 [.int c] (mk I J) Φ := by
  refine inX12_isSignS hd c I J ?_
  have h1 : ¬ cmO c = 0 → Φ (some (.int 1)) (mk I J) := fun q => by rw [b2i_1 q] at h; exact h
  have h0 : cmO c = 0 → Φ (some (.int 0)) (mk I J) := fun q => by rw [b2i_0 (fun w => w q)] at h; exact h
  by_cases q1 : c = 61
  · rw [if_pos q1]; exact h1 (by rw [q1]; decide)
  rw [if_neg q1]
  by_cases q2 : c = 60
  · rw [if_pos q2]; exact h1 (by rw [q2]; decide)
  rw [if_neg q2]
  by_cases q3 : c = 62
  · rw [if_pos q3]; exact h1 (by rw [q3]; decide)
  rw [if_neg q3]; exact h0 (by unfold cmO; rw [if_neg q2, if_neg q1, if_neg q3])
theorem sdX12_isSignS : mj_Sd mX12_isSign 1 tX12_isSignS := by
  intro Ω l d hd as M Φ h
  unfold tX12_isSignS at h
  split at h
  · rename_i c
    obtain ⟨hM, h⟩ := h
    rw [mj_isk_of hM]
    exact mnX12_isSignS hd c _ _ (by
      rw [mj_isk_of hM] at h
      exact h)
  · exact h.elim
def csX12_opensS : List (Nat × Nat × Nat × mj_PT) := [(125, 0, 1, mj_rcv 12 tX12_badS)]
theorem csX12_opensS_ok : mj_Cs mX12_opens 2 csX12_opensS := (mj_CsV (D' := 1) (ci := 12) (q := (RX12, TX12, 45)) sdX12_badS (Nat.le_of_ble_eq_true rfl) fX12_bad rfl rfl iX12_bad vX12_bad (by decide +kernel) l12_125 mj_Cs0)
def cutX12_opensS : List (Nat × List Bool) := []
set_option maxRecDepth 100000 in
set_option maxHeartbeats 4000000 in
theorem inX12_opensS {Ω : mj_Om} {l : Launch} {d : Nat} {Φ : Option Value → mj_M → Prop} (hd : 2 ≤ d) (I : Nat → Nat → Int32) (J : Nat → Nat → Int64)
    (h : ((if (I 91 5) = (6 : Int32) then ((91 = 91 ∧ mj_isk (mk I J)) ∧ (∀ I1683 : Nat → Nat → Int32, (I1683 = mj_ui I 91 4 (bdV I)) → (Φ none (mk (mj_ui (mj_ui I1683 91 5 ((I1683 91 5) + (1 : Int32))) 91 3 ((I1683 91 3) + (1 : Int32))) J)))) else (Φ none (mk (mj_ui (mj_ui I 91 5 ((I 91 5) + (1 : Int32))) 91 3 ((I 91 3) + (1 : Int32))) J))))) :
    mj_Met Ω l false mX12_opens d 0 0 [.ref 91] (mk I J) Φ := mj_entry (by decide) rfl (fun h => (by cases h)) (Nat.le_of_ble_eq_true rfl) (mj_blk (μ := mX12_opens) (P := pX12_opens) (cut := cutX12_opensS) (cs := csX12_opensS) dX12_opens csX12_opensS_ok hd 20 0 _ h)
def tX12_opensS : mj_PT := fun as M Φ => match as with
  | [.ref this] => ((this = 91 ∧ mj_isk M) ∧ (∃ p : Nat, (∃ w : Nat, ((M.2.2.1 91 4 = -1 ∧ M.2.2.1 91 3 = nI p ∧ M.2.2.1 91 5 = nI w ∧ w ≤ 6) ∧ (∀ I1 : Nat → Nat → Int32, (I1 91 3 = nI (p + 1) ∧ I1 91 5 = nI (w + 1) ∧ I1 91 4 = (if w < 6 then -1 else nI p) ∧ fr dFr M.2.2.1 I1) → Φ none (M.1, M.2.1, I1, M.2.2.2))))))
  | _ => False
set_option maxHeartbeats 4000000 in
theorem mnX12_opensS {Ω : mj_Om} {l : Launch} {d : Nat} {Φ : Option Value → mj_M → Prop} (hd : 2 ≤ d) (p : Nat) (w : Nat) (I : Nat → Nat → Int32) (J : Nat → Nat → Int64) (hp : I 91 4 = -1 ∧ I 91 3 = nI p ∧ I 91 5 = nI w ∧ w ≤ 6) (h : ∀ I1 : Nat → Nat → Int32, (I1 91 3 = nI (p + 1) ∧ I1 91 5 = nI (w + 1) ∧ I1 91 4 = (if w < 6 then -1 else nI p) ∧ fr dFr I I1) → Φ none (mk I1 J)) : mj_Met Ω l false mX12_opens d 0 0 [.ref 91] (mk I J) Φ := by
  refine inX12_opensS hd I J ?_
  obtain ⟨h4, h3, h5, hw⟩ := hp
  rw [h5]
  have e6 : (nI w = (6 : Int32)) = (w = 6) := jn_eq (b := 6) (by omega) (by omega)
  by_cases q : w = 6
  · rw [if_pos (by rw [e6]; exact q)]
    refine ⟨⟨by trivial, mj_isk_mk _ _⟩, fun A hA => ?_⟩
    have hb : bdV I = nI p := by unfold bdV; rw [if_pos h4, h3]
    rw [hb] at hA
    have b3 : A 91 3 = nI p := by rw [hA, ui_k (by decide)]; exact h3
    have b5 : A 91 5 = nI w := by rw [hA, ui_k (by decide)]; exact h5
    have b4 : A 91 4 = nI p := by rw [hA, ui_s]
    have frA : fr dFr I A := by rw [hA]; exact fr_ui fr_rf ⟨rfl, by omega⟩
    rw [b5, jn_succ, b3, jn_succ]
    refine h _ ⟨ui_s, by rw [ui_k (by decide), ui_s], by rw [ui_k (by decide), ui_k (by decide), b4, if_neg (by omega)], fr_ui (fr_ui frA ⟨rfl, by omega⟩) ⟨rfl, by omega⟩⟩
  · rw [if_neg (by rw [e6]; exact q), jn_succ]
    rw [h3, jn_succ]
    refine h _ ⟨ui_s, by rw [ui_k (by decide), ui_s], by rw [ui_k (by decide), ui_k (by decide), if_pos (by omega)]; exact h4, fr_ui (fr_ui fr_rf ⟨rfl, by omega⟩) ⟨rfl, by omega⟩⟩
theorem sdX12_opensS : mj_Sd mX12_opens 2 tX12_opensS := by
  intro Ω l d hd as M Φ h
  unfold tX12_opensS at h
  split at h
  · rename_i z_this
    obtain ⟨⟨rfl, hM⟩, p, w, hp, h⟩ := h
    rw [mj_isk_of hM]
    exact mnX12_opensS hd p w _ _ hp (by
      rw [mj_isk_of hM] at h
      exact h)
  · exact h.elim
def csX12_closes : List (Nat × Nat × Nat × mj_PT) := [(125, 0, 1, mj_rcv 12 tX12_badS), (128, 0, 1, mj_rcv 12 tX12_look)]
theorem csX12_closes_ok : mj_Cs mX12_closes 3 csX12_closes := (mj_CsV (D' := 1) (ci := 12) (q := (RX12, TX12, 45)) sdX12_badS (Nat.le_of_ble_eq_true rfl) fX12_bad rfl rfl iX12_bad vX12_bad (by decide +kernel) l12_125 (mj_CsV (D' := 2) (ci := 12) (q := (RX12, TX12, 45)) sdX12_look (Nat.le_of_ble_eq_true rfl) fX12_look rfl rfl iX12_look vX12_look (by decide +kernel) l12_128 mj_Cs0))
def cutX12_closes : List (Nat × List Bool) := []
set_option maxRecDepth 100000 in
set_option maxHeartbeats 4000000 in
theorem inX12_closes {Ω : mj_Om} {l : Launch} {d : Nat} {Φ : Option Value → mj_M → Prop} (hd : 3 ≤ d) (s : Int32) (I : Nat → Nat → Int32) (J : Nat → Nat → Int64)
    (h : ((if (I 91 4) = (-1 : Int32) then ((91 = 91 ∧ mj_isk (mk I J)) ∧ (∃ t1692 : Nat, (∃ τ1693 : Nat → Int32, (∃ p1694 : Nat, ((TM I t1692 τ1693 ∧ I 91 3 = nI p1694 ∧ p1694 ≤ 300) ∧ (∀ I1695 : Nat → Nat → Int32, (I1695 91 3 = nI (skp t1692 τ1693 p1694) ∧ fr mFr I I1695) → (if (nsg t1692 τ1693 p1694) = s then (Φ none (mk (mj_ui (mj_ui I1695 91 3 ((I1695 91 3) + (1 : Int32))) 91 5 ((I1695 91 5) - (1 : Int32))) J)) else ((91 = 91 ∧ mj_isk (mk I1695 J)) ∧ (∀ I1697 : Nat → Nat → Int32, (I1697 = mj_ui I1695 91 4 (bdV I1695)) → (Φ none (mk (mj_ui (mj_ui I1697 91 3 ((I1697 91 3) + (1 : Int32))) 91 5 ((I1697 91 5) - (1 : Int32))) J))))))))))) else (Φ none (mk (mj_ui (mj_ui I 91 3 ((I 91 3) + (1 : Int32))) 91 5 ((I 91 5) - (1 : Int32))) J))))) :
    mj_Met Ω l false mX12_closes d 0 0 [.ref 91, .int s] (mk I J) Φ := mj_entry (by decide) rfl (fun h => (by cases h)) (Nat.le_of_ble_eq_true rfl) (mj_blk (μ := mX12_closes) (P := pX12_closes) (cut := cutX12_closes) (cs := csX12_closes) dX12_closes csX12_closes_ok hd 24 0 _ h)
def tX12_closes : mj_PT := fun as M Φ => match as with
  | [.ref this, .int s] => ((this = 91 ∧ mj_isk M) ∧ (∃ t : Nat, (∃ τ : Nat → Int32, (∃ p : Nat, ((TM M.2.2.1 t τ ∧ M.2.2.1 91 3 = nI p ∧ p ≤ 300) ∧ (∀ I1 : Nat → Nat → Int32, (fr dFr M.2.2.1 I1 ∧ (M.2.2.1 91 4 = -1 → I1 91 3 = nI (skp t τ p + 1) ∧ I1 91 4 = (if nsg t τ p = s then -1 else nI (skp t τ p)) ∧ I1 91 5 = M.2.2.1 91 5 - 1) ∧ (¬ M.2.2.1 91 4 = -1 → I1 91 3 = nI (p + 1) ∧ I1 91 4 = M.2.2.1 91 4)) → Φ none (M.1, M.2.1, I1, M.2.2.2)))))))
  | _ => False
set_option maxHeartbeats 4000000 in
theorem mnX12_closes {Ω : mj_Om} {l : Launch} {d : Nat} {Φ : Option Value → mj_M → Prop} (hd : 3 ≤ d) (s : Int32) (t : Nat) (τ : Nat → Int32) (p : Nat) (I : Nat → Nat → Int32) (J : Nat → Nat → Int64) (hp : TM I t τ ∧ I 91 3 = nI p ∧ p ≤ 300) (h : ∀ I1 : Nat → Nat → Int32, (fr dFr I I1 ∧ (I 91 4 = -1 → I1 91 3 = nI (skp t τ p + 1) ∧ I1 91 4 = (if nsg t τ p = s then -1 else nI (skp t τ p)) ∧ I1 91 5 = I 91 5 - 1) ∧ (¬ I 91 4 = -1 → I1 91 3 = nI (p + 1) ∧ I1 91 4 = I 91 4)) → Φ none (mk I1 J)) : mj_Met Ω l false mX12_closes d 0 0 [.ref 91, .int s] (mk I J) Φ := by
  refine inX12_closes hd s I J ?_
  obtain ⟨hT, h3, hp3⟩ := hp
  by_cases q : I 91 4 = -1
  · rw [if_pos q]
    refine ⟨⟨by trivial, mj_isk_mk _ _⟩, t, τ, p, ⟨hT, h3, hp3⟩, fun A hA => ?_⟩
    obtain ⟨a1, a2⟩ := hA
    have a4 : A 91 4 = -1 := by rw [a2 91 4 (by unfold mFr; omega)]; exact q
    have a5 : A 91 5 = I 91 5 := a2 91 5 (by unfold mFr; omega)
    by_cases u : nsg t τ p = s
    · rw [if_pos u]
      have e3 : (A 91 3 + 1) = nI (skp t τ p + 1) := by rw [a1, jn_succ]
      try rw [e3]
      refine h _ ⟨fr_ui (fr_ui (m_dF a2) ⟨rfl, by omega⟩) ⟨rfl, by omega⟩, fun _ => ⟨by rw [ui_k (by decide), ui_s], by rw [ui_k (by decide), ui_k (by decide), if_pos u]; exact a4, by rw [ui_s, a5]⟩, fun w => absurd q w⟩
    · rw [if_neg u]
      refine ⟨⟨by trivial, mj_isk_mk _ _⟩, fun B hB => ?_⟩
      have hb : bdV A = nI (skp t τ p) := by unfold bdV; rw [if_pos a4, a1]
      rw [hb] at hB
      have b3 : B 91 3 = nI (skp t τ p) := by rw [hB, ui_k (by decide)]; exact a1
      have b4 : B 91 4 = nI (skp t τ p) := by rw [hB, ui_s]
      have b5 : B 91 5 = I 91 5 := by rw [hB, ui_k (by decide)]; exact a5
      have frB : fr dFr I B := by rw [hB]; exact fr_ui (m_dF a2) ⟨rfl, by omega⟩
      rw [b3, jn_succ]
      try rw [b5]
      refine h _ ⟨fr_ui (fr_ui frB ⟨rfl, by omega⟩) ⟨rfl, by omega⟩, fun _ => ⟨by rw [ui_k (by decide), ui_s], by rw [ui_k (by decide), ui_k (by decide), if_neg u]; exact b4, by rw [ui_s]⟩, fun w => absurd q w⟩
  · rw [if_neg q, h3, jn_succ]
    refine h _ ⟨fr_ui (fr_ui fr_rf ⟨rfl, by omega⟩) ⟨rfl, by omega⟩, fun w => absurd w q, fun _ => ⟨by rw [ui_k (by decide), ui_s], by rw [ui_k (by decide), ui_k (by decide)]⟩⟩
theorem sdX12_closes : mj_Sd mX12_closes 3 tX12_closes := by
  intro Ω l d hd as M Φ h
  unfold tX12_closes at h
  split at h
  · rename_i z_this s
    obtain ⟨⟨rfl, hM⟩, t, τ, p, hp, h⟩ := h
    rw [mj_isk_of hM]
    exact mnX12_closes hd s t τ p _ _ hp (by
      rw [mj_isk_of hM] at h
      exact h)
  · exact h.elim
def csX12_plainNumber : List (Nat × Nat × Nat × mj_PT) := [(112, 0, 1, mj_rcv 12 tX12_hereS), (125, 0, 1, mj_rcv 12 tX12_badS), (131, 1, 1, tX12_isDigitS)]
theorem csX12_plainNumber_ok : mj_Cs mX12_plainNumber 2 csX12_plainNumber := (mj_CsV (D' := 1) (ci := 12) (q := (RX12, TX12, 45)) sdX12_hereS (Nat.le_of_ble_eq_true rfl) fX12_here rfl rfl iX12_here vX12_here (by decide +kernel) l12_112 (mj_CsV (D' := 1) (ci := 12) (q := (RX12, TX12, 45)) sdX12_badS (Nat.le_of_ble_eq_true rfl) fX12_bad rfl rfl iX12_bad vX12_bad (by decide +kernel) l12_125 (mj_CsS (D' := 1) sdX12_isDigitS (Nat.le_of_ble_eq_true rfl) fX12_isDigit sX12_isDigit (by decide +kernel) l12_131 mj_Cs0)))
def cutX12_plainNumber : List (Nat × List Bool) := [(4, [true, true, true]), (48, [true, true, true])]
set_option maxRecDepth 100000 in
set_option maxHeartbeats 4000000 in
theorem inX12_plainNumber {Ω : mj_Om} {l : Launch} {d : Nat} {Φ : Option Value → mj_M → Prop} (hd : 2 ≤ d) (I : Nat → Nat → Int32) (J : Nat → Nat → Int64)
    (h : ((mj_G Ω l false mX12_plainNumber d 0 0 Φ 0 0 4 ([some (.ref 91), some (.int (0 : Int32)), some (.int (0 : Int32))], [], (mk I J))))) :
    mj_Met Ω l false mX12_plainNumber d 0 0 [.ref 91] (mk I J) Φ := mj_entry (by decide) rfl (fun h => (by cases h)) (Nat.le_of_ble_eq_true rfl) (mj_blk (μ := mX12_plainNumber) (P := pX12_plainNumber) (cut := cutX12_plainNumber) (cs := csX12_plainNumber) dX12_plainNumber csX12_plainNumber_ok hd 37 0 _ h)
set_option maxRecDepth 100000 in
set_option maxHeartbeats 4000000 in
theorem bX12_plainNumber_4 {Ω : mj_Om} {l : Launch} {d : Nat} {Φ : Option Value → mj_M → Prop} (hd : 2 ≤ d) (x1 : Int32) (x2 : Int32) (I : Nat → Nat → Int32) (J : Nat → Nat → Int64)
    (h : ((if x2 < (4 : Int32) then ((91 = 91 ∧ mj_isk (mk I J)) ∧ (∃ t1720 : Nat, (∃ τ1721 : Nat → Int32, (∃ p1722 : Nat, ((TM I t1720 τ1721 ∧ I 91 3 = nI p1722 ∧ p1722 ≤ 300) ∧ ((mj_isk (mk I J)) ∧ (if (b2i (isD (sg t1720 τ1721 p1722))) = (0 : Int32) then (mj_G Ω l false mX12_plainNumber d 0 0 Φ 0 0 48 ([some (.ref 91), some (.int x1), some (.int x2)], [], (mk I J))) else ((91 = 91 ∧ mj_isk (mk I J)) ∧ (∃ t1727 : Nat, (∃ τ1728 : Nat → Int32, (∃ p1729 : Nat, ((TM I t1727 τ1728 ∧ I 91 3 = nI p1729 ∧ p1729 ≤ 300) ∧ (mj_G Ω l false mX12_plainNumber d 0 0 Φ 0 0 4 ([some (.ref 91), some (.int ((((10 : Int32) * x1) + (sg t1727 τ1728 p1729)) - (48 : Int32))), some (.int (x2 + (1 : Int32)))], [], (mk (mj_ui I 91 3 ((I 91 3) + (1 : Int32))) J))))))))))))))) else (mj_G Ω l false mX12_plainNumber d 0 0 Φ 0 0 48 ([some (.ref 91), some (.int x1), some (.int x2)], [], (mk I J)))))) :
    mj_G Ω l false mX12_plainNumber d 0 0 Φ 0 0 4 ([some (.ref 91), some (.int x1), some (.int x2)], [], mk I J) := mj_blk (μ := mX12_plainNumber) (P := pX12_plainNumber) (cut := cutX12_plainNumber) (cs := csX12_plainNumber) dX12_plainNumber csX12_plainNumber_ok hd 37 4 _ h
set_option maxRecDepth 100000 in
set_option maxHeartbeats 4000000 in
theorem bX12_plainNumber_48 {Ω : mj_Om} {l : Launch} {d : Nat} {Φ : Option Value → mj_M → Prop} (hd : 2 ≤ d) (x1 : Int32) (x2 : Int32) (I : Nat → Nat → Int32) (J : Nat → Nat → Int64)
    (h : (((91 = 91 ∧ mj_isk (mk I J)) ∧ (∃ t1732 : Nat, (∃ τ1733 : Nat → Int32, (∃ p1734 : Nat, ((TM I t1732 τ1733 ∧ I 91 3 = nI p1734 ∧ p1734 ≤ 300) ∧ ((mj_isk (mk I J)) ∧ (if (b2i (isD (sg t1732 τ1733 p1734))) = (0 : Int32) then (Φ (some (.int x1)) (mk I J)) else ((91 = 91 ∧ mj_isk (mk I J)) ∧ (∀ I1739 : Nat → Nat → Int32, (I1739 = mj_ui I 91 4 (bdV I)) → (Φ (some (.int x1)) (mk I1739 J))))))))))))) :
    mj_G Ω l false mX12_plainNumber d 0 0 Φ 0 0 48 ([some (.ref 91), some (.int x1), some (.int x2)], [], mk I J) := mj_blk (μ := mX12_plainNumber) (P := pX12_plainNumber) (cut := cutX12_plainNumber) (cs := csX12_plainNumber) dX12_plainNumber csX12_plainNumber_ok hd 37 48 _ h
def tX12_plainNumber : mj_PT := fun as M Φ => match as with
  | [.ref this] => ((this = 91 ∧ mj_isk M) ∧ (∃ t : Nat, (∃ τ : Nat → Int32, (∃ p : Nat, ((TM M.2.2.1 t τ ∧ M.2.2.1 91 3 = nI p ∧ p ≤ t ∧ M.2.2.1 91 4 = -1) ∧ (∀ I1 : Nat → Nat → Int32, (I1 91 3 = nI (nmV t τ 4 p 0).1 ∧ (isD (sg t τ (nmV t τ 4 p 0).1) → I1 91 4 = nI (nmV t τ 4 p 0).1) ∧ (¬ isD (sg t τ (nmV t τ 4 p 0).1) → I1 91 4 = -1) ∧ fr pFr M.2.2.1 I1) → Φ (some (.int (nI (nmV t τ 4 p 0).2))) (M.1, M.2.1, I1, M.2.2.2)))))))
  | _ => False
set_option maxHeartbeats 4000000 in
theorem mnX12_plainNumber {Ω : mj_Om} {l : Launch} {d : Nat} {Φ : Option Value → mj_M → Prop} (hd : 2 ≤ d) (t : Nat) (τ : Nat → Int32) (p : Nat) (I : Nat → Nat → Int32) (J : Nat → Nat → Int64) (hp : TM I t τ ∧ I 91 3 = nI p ∧ p ≤ t ∧ I 91 4 = -1) (h : ∀ I1 : Nat → Nat → Int32, (I1 91 3 = nI (nmV t τ 4 p 0).1 ∧ (isD (sg t τ (nmV t τ 4 p 0).1) → I1 91 4 = nI (nmV t τ 4 p 0).1) ∧ (¬ isD (sg t τ (nmV t τ 4 p 0).1) → I1 91 4 = -1) ∧ fr pFr I I1) → Φ (some (.int (nI (nmV t τ 4 p 0).2))) (mk I1 J)) : mj_Met Ω l false mX12_plainNumber d 0 0 [.ref 91] (mk I J) Φ := by
  refine inX12_plainNumber hd I J ?_
  obtain ⟨hT, h3, hpt, h4⟩ := hp
  have htt := hT.1.1
  have hTA : ∀ A, fr mFr I A → TM A t τ := fun A hfr => TM_d hT (m_dF hfr)
  obtain ⟨b1, b2, b3, b4⟩ := nmV_b (t := t) (τ := τ) 4 p 0
  have b5 := b3 hpt
  have fin : ∀ (x2 : Int32) (B : Nat → Nat → Int32), B 91 3 = nI (nmV t τ 4 p 0).1 → fr mFr I B → mj_G Ω l false mX12_plainNumber d 0 0 Φ 0 0 48 ([some (.ref 91), some (.int (nI (nmV t τ 4 p 0).2)), some (.int x2)], [], mk B J) := by
    intro x2 B hB hfr
    have hB4 : B 91 4 = -1 := by rw [hfr 91 4 (by unfold mFr; omega)]; exact h4
    refine bX12_plainNumber_48 hd _ x2 B J ?_
    refine ⟨⟨by trivial, mj_isk_mk _ _⟩, t, τ, (nmV t τ 4 p 0).1, ⟨hTA B hfr, hB, by omega⟩, mj_isk_mk _ _, ?_⟩
    by_cases w : isD (sg t τ (nmV t τ 4 p 0).1)
    · rw [if_neg (by rw [b2i_e0]; exact fun z => z w)]
      refine ⟨⟨by trivial, mj_isk_mk _ _⟩, fun C hC => ?_⟩
      have hb : bdV B = nI (nmV t τ 4 p 0).1 := by unfold bdV; rw [if_pos hB4, hB]
      rw [hb] at hC
      subst hC
      exact h _ ⟨by rw [ui_k (by decide)]; exact hB, fun _ => ui_s, fun z => absurd w z, fr_ui (m_pF hfr) ⟨rfl, by omega⟩⟩
    · rw [if_pos (by rw [b2i_e0]; exact w)]
      exact h B ⟨hB, fun z => absurd z w, fun _ => hB4, m_pF hfr⟩
  have key : ∀ (f j q v : Nat) (B : Nat → Nat → Int32), j + f = 4 → q ≤ t → v + 1 ≤ 10 ^ j → B 91 3 = nI q → fr mFr I B → nmV t τ f q v = nmV t τ 4 p 0 → mj_G Ω l false mX12_plainNumber d 0 0 Φ 0 0 4 ([some (.ref 91), some (.int (nI v)), some (.int (nI j))], [], mk B J) := by
    intro f
    induction f with
    | zero =>
      intro j q v B hj hqt hv hB hfr he
      refine bX12_plainNumber_4 hd (nI v) (nI j) B J ?_
      rw [show (4 : Int32) = nI 4 from rfl, if_neg (nnl (a := j) (b := 4) (by omega) (by omega))]
      have e1 : q = (nmV t τ 4 p 0).1 := by rw [← he]; rfl
      have e2 : v = (nmV t τ 4 p 0).2 := by rw [← he]; rfl
      rw [e2]
      exact fin _ B (by rw [← e1]; exact hB) hfr
    | succ f ih =>
      intro j q v B hj hqt hv hB hfr he
      refine bX12_plainNumber_4 hd (nI v) (nI j) B J ?_
      rw [show (4 : Int32) = nI 4 from rfl, if_pos (nlt (a := j) (b := 4) (by omega) (by omega))]
      refine ⟨⟨by trivial, mj_isk_mk _ _⟩, t, τ, q, ⟨hTA B hfr, hB, by omega⟩, mj_isk_mk _ _, ?_⟩
      by_cases w : isD (sg t τ q)
      · rw [if_neg (by rw [b2i_e0]; exact fun z => z w)]
        refine ⟨⟨by trivial, mj_isk_mk _ _⟩, t, τ, q, ⟨hTA B hfr, hB, by omega⟩, ?_⟩
        have hj4 : 10 ^ j ≤ 10 ^ 4 := Nat.pow_le_pow_right (by decide) (by omega)
        have hw := w.2
        rw [hB, jn_succ, jn_succ, nm_step' w (by omega)]
        refine ih (j + 1) (q + 1) _ _ (by omega) (isD_lt w) ?_ ui_s (fr_ui hfr ⟨rfl, rfl⟩) (by rw [← nmV_s w]; exact he)
        rw [Nat.pow_succ]; omega
      · rw [if_pos (by rw [b2i_e0]; exact w)]
        rw [nmV_n w] at he
        have e1 : q = (nmV t τ 4 p 0).1 := by rw [← he]
        have e2 : v = (nmV t τ 4 p 0).2 := by rw [← he]
        rw [e2]
        exact fin _ B (by rw [← e1]; exact hB) hfr
  exact key 4 0 p 0 I (by omega) hpt (by decide) h3 fr_rf rfl
theorem sdX12_plainNumber : mj_Sd mX12_plainNumber 2 tX12_plainNumber := by
  intro Ω l d hd as M Φ h
  unfold tX12_plainNumber at h
  split at h
  · rename_i z_this
    obtain ⟨⟨rfl, hM⟩, t, τ, p, hp, h⟩ := h
    rw [mj_isk_of hM]
    exact mnX12_plainNumber hd t τ p _ _ hp (by
      rw [mj_isk_of hM] at h
      exact h)
  · exact h.elim
def tX12_atom (w : Nat) : mj_PT := fun as M Φ => match as with
  | [.ref this] => ((this = 91 ∧ mj_isk M) ∧ (∃ t : Nat, (∃ τ : Nat → Int32, (∃ p : Nat, (∃ n : Nat, (∃ x : Nat, (∃ z : Nat, ((w ≤ 6 ∧ prM M.2.2.1 t τ p n w x z) ∧ (∀ I1 : Nat → Nat → Int32, (wrM (atW t τ w p) t w n x z M.2.2.1 I1) → Φ none (M.1, M.2.1, I1, M.2.2.2))))))))))
  | _ => False
def tX12_term (w : Nat) : mj_PT := fun as M Φ => match as with
  | [.ref this] => ((this = 91 ∧ mj_isk M) ∧ (∃ t : Nat, (∃ τ : Nat → Int32, (∃ p : Nat, (∃ n : Nat, (∃ x : Nat, (∃ z : Nat, ((w ≤ 6 ∧ prM M.2.2.1 t τ p n w x z) ∧ (∀ I1 : Nat → Nat → Int32, (wrM (tmW t τ w p) t w n x z M.2.2.1 I1) → Φ none (M.1, M.2.1, I1, M.2.2.2))))))))))
  | _ => False
def tX12_sum (w : Nat) : mj_PT := fun as M Φ => match as with
  | [.ref this] => ((this = 91 ∧ mj_isk M) ∧ (∃ t : Nat, (∃ τ : Nat → Int32, (∃ p : Nat, (∃ n : Nat, (∃ x : Nat, (∃ z : Nat, ((w ≤ 6 ∧ prM M.2.2.1 t τ p n w x z) ∧ (∀ I1 : Nat → Nat → Int32, (wrM (smW t τ w p) t w n x z M.2.2.1 I1) → Φ none (M.1, M.2.1, I1, M.2.2.2))))))))))
  | _ => False
