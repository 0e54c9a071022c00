/-! ===== rules read by the reference; a rule added by the class (by program, wip/whole/p83.py) ===== -/
def tot : List (List Int32 × List Int32) → Nat
  | [] => 0
  | q :: r => q.1.length + q.2.length + tot r
theorem tot_app {ks : List (List Int32 × List Int32)} {c : List Int32 × List Int32} : tot (ks ++ [c]) = tot ks + (c.1.length + c.2.length) := by
  induction ks with
  | nil => show c.1.length + c.2.length + 0 = 0 + (c.1.length + c.2.length); omega
  | cons k ks ih => rw [List.cons_append, tot, tot, ih]; omega
theorem offM_app {ks : List (List Int32 × List Int32)} {c : List Int32 × List Int32} : ∀ {j : Nat}, j ≤ ks.length → offM (ks ++ [c]) j = (if j < ks.length then offM ks j else tot ks) := by
  induction ks with
  | nil => intro j hj; have : j = 0 := Nat.le_zero.mp hj; subst this; rfl
  | cons k ks ih =>
    intro j hj
    cases j with
    | zero => rw [List.cons_append, offM, if_pos (by rw [List.length_cons]; omega), offM]
    | succ j =>
      rw [List.length_cons] at hj
      rw [List.cons_append, offM, ih (by omega), List.length_cons]
      by_cases q : j < ks.length
      · rw [if_pos q, if_pos (by omega), offM]
      · rw [if_neg q, if_neg (by omega), tot]
theorem offM_le {ks : List (List Int32 × List Int32)} : ∀ {j : Nat}, j < ks.length → offM ks j + (ks.getD j ([], [])).1.length + (ks.getD j ([], [])).2.length ≤ tot ks := by
  induction ks with
  | nil => intro j hj; exact absurd hj (Nat.not_lt_zero j)
  | cons k ks ih =>
    intro j hj
    cases j with
    | zero => show 0 + k.1.length + k.2.length ≤ k.1.length + k.2.length + tot ks; omega
    | succ j =>
      have := ih (j := j) (by rw [List.length_cons] at hj; omega)
      show k.1.length + k.2.length + offM ks j + (ks.getD j ([], [])).1.length + (ks.getD j ([], [])).2.length ≤ k.1.length + k.2.length + tot ks
      omega
theorem kd_l {ks : List (List Int32 × List Int32)} {c : List Int32 × List Int32} {j : Nat} (h : j < ks.length) : (ks ++ [c]).getD j ([], []) = ks.getD j ([], []) := by
  rw [List.getD_eq_getElem?_getD, List.getD_eq_getElem?_getD, List.getElem?_append_left h]
theorem kd_r {ks : List (List Int32 × List Int32)} {c : List Int32 × List Int32} : (ks ++ [c]).getD ks.length ([], []) = c := by
  rw [List.getD_eq_getElem?_getD, List.getElem?_append_right (Nat.le_refl _), Nat.sub_self]; rfl
theorem CLM_push {B C : Nat → Nat → Int32} {x p1 : Nat} {ks : List (List Int32 × List Int32)} {c : List Int32 × List Int32} {r : CR} (h : CLM B x ks) (hr : clM r x (tot ks) ks.length B C) (he : r = .ok (p1, c)) (hc : clOk c) (hl : tot ks + (c.1.length + c.2.length) ≤ 520) (hk : ks.length + 1 ≤ 140) : CLM C x (ks ++ [c]) ∧ C 95 x = nI (tot (ks ++ [c])) := by
  obtain ⟨h1, h2, h3, h4⟩ := h
  obtain ⟨r1, -, r3⟩ := hr
  obtain ⟨g3, g4, g5, gC, g96, g97, g98, g99⟩ := r3 _ he
  refine ⟨⟨fun q hq => ?_, by rw [List.length_append, List.length_singleton]; exact hk, by rw [List.length_append, List.length_singleton]; exact g96, fun j hj => ?_⟩, by rw [gC.1, tot_app, List.length_append]⟩
  · rcases List.mem_append.mp hq with q1 | q1
    · exact h1 q q1
    · rw [List.mem_singleton.mp q1]; exact hc
  · rw [List.length_append, List.length_singleton] at hj
    rw [offM_app (by omega)]
    by_cases q : j < ks.length
    · rw [if_pos q, kd_l q]
      obtain ⟨w0, w1, w2, w3, w4, w5⟩ := h4 j q
      have le := offM_le q
      refine ⟨w0, by rw [r1 97 _ (by unfold lF qF; omega)]; exact w1, by rw [r1 98 _ (by unfold lF qF; omega)]; exact w2, by rw [r1 99 _ (by unfold lF qF; omega)]; exact w3, fun i hi => ?_, fun i hi => ?_⟩
      · have := gC.2.2 (offM ks j + i) (by omega)
        rw [Nat.add_assoc, this.1, this.2, ← Nat.add_assoc]; exact w4 i hi
      · have := gC.2.2 (offM ks j + (ks.getD j ([], [])).1.length + i) (by omega)
        rw [Nat.add_assoc, this.1, this.2, ← Nat.add_assoc]; exact w5 i hi
    · have e : j = ks.length := by omega
      subst e
      rw [if_neg q, kd_r]
      refine ⟨by omega, g97, g98, g99, fun i hi => ?_, fun i hi => ?_⟩
      · have := gC.2.1 i (by rw [List.length_append]; show i < c.1.length + c.2.length; omega)
        rw [gd_l (xs := c.1) hi] at this
        rw [Nat.add_assoc]; exact this
      · have := gC.2.1 (c.1.length + i) (by rw [List.length_append]; show c.1.length + i < c.1.length + c.2.length; omega)
        rw [gd_r (xs := c.1) (by omega), Nat.add_sub_cancel_left] at this
        rw [Nat.add_assoc, Nat.add_assoc]; exact this
theorem cl_tot {t : Nat} {τ : Nat → Int32} {p : Nat} {r : Nat × (List Int32 × List Int32)} (hp : p ≤ t) (h : clP t τ p = .ok r) : r.2.1.length + r.2.2.length + p + 1 ≤ r.1 := by
  obtain ⟨-, -, -, b⟩ := (cl_ok hp).2 r h
  have := b 0
  unfold blkC at this
  split at this
  · rename_i q; rw [q]; rw [List.length_append, List.length_singleton] at this; show 0 + r.2.2.length + p + 1 ≤ r.1; omega
  · rw [List.length_append, List.length_cons, List.length_append, List.length_singleton] at this; omega
def wF (x c j : Nat) : Prop := (c = 91 ∧ (j = 3 ∨ j = 4 ∨ j = 5 ∨ j = 14)) ∨ ((c = 93 ∨ c = 94) ∧ 520 * x ≤ j ∧ j < 520 * x + 520) ∨ ((c = 95 ∨ c = 96) ∧ j = x) ∨ ((c = 97 ∨ c = 98 ∨ c = 99) ∧ 140 * x ≤ j ∧ j < 140 * x + 140)
theorem l_wF {x k : Nat} {I I1 : Nat → Nat → Int32} (hk : k < 140) (h : fr (lF x k) I I1) : fr (wF x) I I1 := fr_mo h (fun c j q => by unfold lF qF at q; unfold wF; omega)
def csX12_atEnd : List (Nat × Nat × Nat × mj_PT) := [(125, 0, 1, mj_rcv 12 tX12_badS), (128, 0, 1, mj_rcv 12 tX12_look)]
theorem csX12_atEnd_ok : mj_Cs mX12_atEnd 3 csX12_atEnd := (mj_CsV (D' := 1) (ci := 12) (q := (RX12, TX12, 45)) sdX12_badS (Nat.le_of_ble_eq_true rfl) fX12_bad rfl rfl iX12_bad vX12_bad (by decide +kernel) l12_125 (mj_CsV (D' := 2) (ci := 12) (q := (RX12, TX12, 45)) sdX12_look (Nat.le_of_ble_eq_true rfl) fX12_look rfl rfl iX12_look vX12_look (by decide +kernel) l12_128 mj_Cs0))
def tX12_atEnd : mj_PT := mj_ptw mX12_atEnd pX12_atEnd csX12_atEnd 14
theorem sdX12_atEnd : mj_Sd mX12_atEnd 3 tX12_atEnd := mj_ptw_sd dX12_atEnd ⟨by decide, rfl, fun h => (by cases h)⟩ csX12_atEnd_ok
def csX12_readLaw : List (Nat × Nat × Nat × mj_PT) := [(128, 0, 1, mj_rcv 12 tX12_look), (180, 0, 2, mj_rcv 12 tX12_open), (183, 0, 1, mj_rcv 12 tX12_clause), (186, 0, 1, mj_rcv 12 tX12_atEnd)]
theorem csX12_readLaw_ok : mj_Cs mX12_readLaw 43 csX12_readLaw := (mj_CsV (D' := 2) (ci := 12) (q := (RX12, TX12, 45)) sdX12_look (Nat.le_of_ble_eq_true rfl) fX12_look rfl rfl iX12_look vX12_look (by decide +kernel) l12_128 (mj_CsV (D' := 1) (ci := 12) (q := (RX12, TX12, 45)) sdX12_open (Nat.le_of_ble_eq_true rfl) fX12_open rfl rfl iX12_open vX12_open (by decide +kernel) l12_180 (mj_CsV (D' := 42) (ci := 12) (q := (RX12, TX12, 45)) sdX12_clause (Nat.le_of_ble_eq_true rfl) fX12_clause rfl rfl iX12_clause vX12_clause (by decide +kernel) l12_183 (mj_CsV (D' := 3) (ci := 12) (q := (RX12, TX12, 45)) sdX12_atEnd (Nat.le_of_ble_eq_true rfl) fX12_atEnd rfl rfl iX12_atEnd vX12_atEnd (by decide +kernel) l12_186 mj_Cs0))))
def cutX12_readLaw : List (Nat × List Bool) := [(9, [true, true]), (43, [true, true])]
set_option maxRecDepth 100000 in
set_option maxHeartbeats 4000000 in
theorem inX12_readLaw {Ω : mj_Om} {l : Launch} {d : Nat} {Φ : Option Value → mj_M → Prop} (hd : 43 ≤ d) (x_ : Int32) (I : Nat → Nat → Int32) (J : Nat → Nat → Int64)
    (h : ((mj_gd (mj_inB x_ 5) (mj_gd (mj_inB x_ 5) ((91 = 91 ∧ mj_isk (mk (mj_ui (mj_ui (mj_ui (mj_ui (mj_ui (mj_ui I 91 14 x_) 91 3 (0 : Int32)) 91 4 (-1 : Int32)) 91 5 (0 : Int32)) 95 (x_).toNatClampNeg (0 : Int32)) 96 (x_).toNatClampNeg (0 : Int32)) J)) ∧ (∃ t2545 : Nat, (∃ τ2546 : Nat → Int32, (∃ p2547 : Nat, (∃ n2548 : Nat, (∃ x2549 : Nat, (∃ k2550 : Nat, ((prM (mj_ui (mj_ui (mj_ui (mj_ui (mj_ui (mj_ui I 91 14 x_) 91 3 (0 : Int32)) 91 4 (-1 : Int32)) 91 5 (0 : Int32)) 95 (x_).toNatClampNeg (0 : Int32)) 96 (x_).toNatClampNeg (0 : Int32)) t2545 τ2546 p2547 n2548 0 x2549 0 ∧ (mj_ui (mj_ui (mj_ui (mj_ui (mj_ui (mj_ui I 91 14 x_) 91 3 (0 : Int32)) 91 4 (-1 : Int32)) 91 5 (0 : Int32)) 95 (x_).toNatClampNeg (0 : Int32)) 96 (x_).toNatClampNeg (0 : Int32)) 96 x2549 = nI k2550 ∧ k2550 < 140) ∧ (∀ I2551 : Nat → Nat → Int32, (clM (clP t2545 τ2546 p2547) x2549 n2548 k2550 (mj_ui (mj_ui (mj_ui (mj_ui (mj_ui (mj_ui I 91 14 x_) 91 3 (0 : Int32)) 91 4 (-1 : Int32)) 91 5 (0 : Int32)) 95 (x_).toNatClampNeg (0 : Int32)) 96 (x_).toNatClampNeg (0 : Int32)) I2551) → (mj_G Ω l false mX12_readLaw d 0 0 Φ 0 0 9 ([some (.ref 91), some (.int x_)], [], (mk I2551 J)))))))))))))))) :
    mj_Met Ω l false mX12_readLaw d 0 0 [.ref 91, .int x_] (mk I J) Φ := mj_entry (by decide) rfl (fun h => (by cases h)) (Nat.le_of_ble_eq_true rfl) (mj_blk (μ := mX12_readLaw) (P := pX12_readLaw) (cut := cutX12_readLaw) (cs := csX12_readLaw) dX12_readLaw csX12_readLaw_ok hd 26 0 _ h)
set_option maxRecDepth 100000 in
set_option maxHeartbeats 4000000 in
theorem bX12_readLaw_9 {Ω : mj_Om} {l : Launch} {d : Nat} {Φ : Option Value → mj_M → Prop} (hd : 43 ≤ d) (x1 : Int32) (I : Nat → Nat → Int32) (J : Nat → Nat → Int64)
    (h : ((if (I 91 4) = (-1 : Int32) then ((91 = 91 ∧ mj_isk (mk I J)) ∧ (∃ t2553 : Nat, (∃ τ2554 : Nat → Int32, (∃ p2555 : Nat, ((TM I t2553 τ2554 ∧ I 91 3 = nI p2555 ∧ p2555 ≤ 300) ∧ (∀ I2556 : Nat → Nat → Int32, (I2556 91 3 = nI (skp t2553 τ2554 p2555) ∧ fr mFr I I2556) → (if (nsg t2553 τ2554 p2555) = (59 : Int32) then ((91 = 91 ∧ mj_isk (mk (mj_ui I2556 91 3 ((I2556 91 3) + (1 : Int32))) J)) ∧ (∃ t2558 : Nat, (∃ τ2559 : Nat → Int32, (∃ p2560 : Nat, (∃ n2561 : Nat, (∃ x2562 : Nat, (∃ k2563 : Nat, ((prM (mj_ui I2556 91 3 ((I2556 91 3) + (1 : Int32))) t2558 τ2559 p2560 n2561 0 x2562 0 ∧ (mj_ui I2556 91 3 ((I2556 91 3) + (1 : Int32))) 96 x2562 = nI k2563 ∧ k2563 < 140) ∧ (∀ I2564 : Nat → Nat → Int32, (clM (clP t2558 τ2559 p2560) x2562 n2561 k2563 (mj_ui I2556 91 3 ((I2556 91 3) + (1 : Int32))) I2564) → (mj_G Ω l false mX12_readLaw d 0 0 Φ 0 0 9 ([some (.ref 91), some (.int x1)], [], (mk I2564 J)))))))))))) else (mj_G Ω l false mX12_readLaw d 0 0 Φ 0 0 43 ([some (.ref 91), some (.int x1)], [], (mk I2556 J)))))))))) else (mj_G Ω l false mX12_readLaw d 0 0 Φ 0 0 43 ([some (.ref 91), some (.int x1)], [], (mk I J)))))) :
    mj_G Ω l false mX12_readLaw d 0 0 Φ 0 0 9 ([some (.ref 91), some (.int x1)], [], mk I J) := mj_blk (μ := mX12_readLaw) (P := pX12_readLaw) (cut := cutX12_readLaw) (cs := csX12_readLaw) dX12_readLaw csX12_readLaw_ok hd 26 9 _ h
set_option maxRecDepth 100000 in
set_option maxHeartbeats 4000000 in
theorem bX12_readLaw_43 {Ω : mj_Om} {l : Launch} {d : Nat} {Φ : Option Value → mj_M → Prop} (hd : 43 ≤ d) (x1 : Int32) (I : Nat → Nat → Int32) (J : Nat → Nat → Int64)
    (h : ((if (I 91 4) = (-1 : Int32) then ((91 = 91 ∧ mj_isk (mk I J)) ∧ (∃ t2566 : Nat, (∃ τ2567 : Nat → Int32, (∃ p2568 : Nat, ((TM I t2566 τ2567 ∧ I 91 3 = nI p2568 ∧ p2568 ≤ 300) ∧ (∀ I2569 : Nat → Nat → Int32, (I2569 91 3 = nI (skp t2566 τ2567 p2568) ∧ fr mFr I I2569) → (if (nsg t2566 τ2567 p2568) = (-1 : Int32) then (Φ (some (.int (I2569 91 4))) (mk I2569 J)) else ((91 = 91 ∧ mj_isk (mk I2569 J)) ∧ (∀ I2571 : Nat → Nat → Int32, (I2571 = mj_ui I2569 91 4 (bdV I2569)) → (Φ (some (.int (I2571 91 4))) (mk I2571 J))))))))))) else (Φ (some (.int (I 91 4))) (mk I J))))) :
    mj_G Ω l false mX12_readLaw d 0 0 Φ 0 0 43 ([some (.ref 91), some (.int x1)], [], mk I J) := mj_blk (μ := mX12_readLaw) (P := pX12_readLaw) (cut := cutX12_readLaw) (cs := csX12_readLaw) dX12_readLaw csX12_readLaw_ok hd 26 43 _ h
def tX12_readLaw : mj_PT := fun as M Φ => match as with
  | [.ref this, .int x_] => ((this = 91 ∧ mj_isk M) ∧ (∃ x : Nat, x_ = nI x ∧ (∃ t : Nat, (∃ τ : Nat → Int32, ((TM M.2.2.1 t τ ∧ x ≤ 4) ∧ (∀ I1 : Nat → Nat → Int32, (fr (wF x) M.2.2.1 I1 ∧ ∀ ks, ruP t τ = .ok ks → CLM I1 x ks) → Φ (some (.int (faR (ruP t τ)))) (M.1, M.2.1, I1, M.2.2.2)))))))
  | _ => False
set_option maxHeartbeats 16000000 in
theorem mnX12_readLaw {Ω : mj_Om} {l : Launch} {d : Nat} {Φ : Option Value → mj_M → Prop} (hd : 43 ≤ d) (x : Nat) (t : Nat) (τ : Nat → Int32) (I : Nat → Nat → Int32) (J : Nat → Nat → Int64) (hp : TM I t τ ∧ x ≤ 4) (h : ∀ I1 : Nat → Nat → Int32, (fr (wF x) I I1 ∧ ∀ ks, ruP t τ = .ok ks → CLM I1 x ks) → Φ (some (.int (faR (ruP t τ)))) (mk I1 J)) : mj_Met Ω l false mX12_readLaw d 0 0 [.ref 91, .int (nI x)] (mk I J) Φ := by
  refine inX12_readLaw hd (nI x) I J ?_
  obtain ⟨hT, hx⟩ := hp
  have ht := hT.1.1
  have hE : ∀ (e : Nat) (A : Nat → Nat → Int32) (y : Int32), ruP t τ = .error e → fr (wF x) I A → y = nI e → Φ (some (.int y)) (mk A J) := fun e A y he hf hy => by
    have := h A ⟨hf, fun ks hk => by rw [he] at hk; cases hk⟩
    rw [he] at this
    rw [hy]
    exact this
  have hO : ∀ (ks : List (List Int32 × List Int32)) (A : Nat → Nat → Int32) (y : Int32), ruP t τ = .ok ks → fr (wF x) I A → CLM A x ks → y = -1 → Φ (some (.int y)) (mk A J) := fun ks A y he hf hc hy => by
    have := h A ⟨hf, fun ks' hk => by rw [he] at hk; cases hk; exact hc⟩
    rw [he] at this
    rw [hy]
    exact this
  have e43 : ∀ (e : Nat) (B : Nat → Nat → Int32), e ≤ 300 → ruP t τ = .error e → fr (wF x) I B → B 91 4 = nI e → mj_G Ω l false mX12_readLaw d 0 0 Φ 0 0 9 ([some (.ref 91), some (.int (nI x))], [], mk B J) := by
    intro e B he3 he bF b4
    refine bX12_readLaw_9 hd (nI x) B J ?_
    rw [if_neg (by rw [b4]; exact nI_n1 he3)]
    refine bX12_readLaw_43 hd (nI x) B J ?_
    rw [if_neg (by rw [b4]; exact nI_n1 he3)]
    exact hE e B _ he bF b4
  have key : ∀ (f q : Nat) (ks : List (List Int32 × List Int32)) (B : Nat → Nat → Int32), t + 1 ≤ q + f → 3 * ks.length ≤ q → q ≤ t → tot ks ≤ q → B 91 3 = nI q → B 91 4 = -1 → B 91 5 = nI 0 → CLM B x ks → B 95 x = nI (tot ks) → B 91 14 = nI x → fr (wF x) I B → ruP t τ = (if nsg t τ q = 59 then rlP t τ f (skp t τ q + 1) ks else if nsg t τ q = -1 then .ok ks else .error (skp t τ q)) → mj_G Ω l false mX12_readLaw d 0 0 Φ 0 0 9 ([some (.ref 91), some (.int (nI x))], [], mk B J) := by
    intro f
    induction f with
    | zero => intro q ks B hf hi hq hl b3 b4 b5 bC b95 b14 bF he; omega
    | succ f ih =>
      intro q ks B hf hi hq hl b3 b4 b5 bC b95 b14 bF he
      have k1 := skp_le (τ := τ) hq
      have k2 := skp_ge (t := t) (τ := τ) (p := q)
      have TB : TM B t τ := TM_fr hT (bF 91 2 (by unfold wF; omega)) (fun k => bF 92 k (by unfold wF; omega))
      refine bX12_readLaw_9 hd (nI x) B J ?_
      rw [if_pos b4]
      refine ⟨⟨by trivial, mj_isk_mk _ _⟩, t, τ, q, ⟨TB, b3, by omega⟩, fun C hC => ?_⟩
      obtain ⟨c3, cm⟩ := hC
      have c4 : C 91 4 = -1 := by rw [cm 91 4 (by unfold mFr; omega)]; exact b4
      have c5 : C 91 5 = nI 0 := by rw [cm 91 5 (by unfold mFr; omega)]; exact b5
      have c14 : C 91 14 = nI x := by rw [cm 91 14 (by unfold mFr; omega)]; exact b14
      have c95 : C 95 x = nI (tot ks) := by rw [cm 95 x (by unfold mFr; omega)]; exact b95
      have cC : CLM C x ks := CLM_fr bC (fun c k q1 q2 => cm c k (by unfold mFr; omega))
      have cF : fr (wF x) I C := fr_tr bF (fr_mo cm (fun c j q => by unfold mFr at q; unfold wF; omega))
      have TC' : TM C t τ := TM_d TB (m_dF cm)
      by_cases s1 : nsg t τ q = 59
      case neg =>
        rw [if_neg s1]
        rw [if_neg s1] at he
        refine bX12_readLaw_43 hd (nI x) C J ?_
        rw [if_pos c4]
        refine ⟨⟨by trivial, mj_isk_mk _ _⟩, t, τ, skp t τ q, ⟨TC', c3, by omega⟩, fun D hD => ?_⟩
        obtain ⟨d3, dm⟩ := hD
        rw [nsg_skp]
        rw [skp_skp] at d3
        have d4 : D 91 4 = -1 := by rw [dm 91 4 (by unfold mFr; omega)]; exact c4
        have dF : fr (wF x) I D := fr_tr cF (fr_mo dm (fun c j q => by unfold mFr at q; unfold wF; omega))
        by_cases s2 : nsg t τ q = -1
        · rw [if_pos s2]
          rw [if_pos s2] at he
          exact hO ks D _ he dF (CLM_fr cC (fun c k q1 q2 => dm c k (by unfold mFr; omega))) d4
        · rw [if_neg s2]
          rw [if_neg s2] at he
          refine ⟨⟨by trivial, mj_isk_mk _ _⟩, fun E hE2 => ?_⟩
          have hb : bdV D = nI (skp t τ q) := by unfold bdV; rw [if_pos d4, d3]
          rw [hb] at hE2
          exact hE _ E _ he (by rw [hE2]; exact fr_ui dF (Or.inl ⟨rfl, by omega⟩)) (by rw [hE2, ui_s])
      rw [if_pos s1, c3, jn_succ]
      rw [if_pos s1, rlP] at he
      have h3' : skp t τ q + 1 ≤ t := nsg_p s1 (by decide)
      have dD : fr dFr C (mj_ui C 91 3 (nI (skp t τ q + 1))) := fr_ui fr_rf ⟨rfl, by omega⟩
      have dF : fr (wF x) I (mj_ui C 91 3 (nI (skp t τ q + 1))) := fr_ui cF (Or.inl ⟨rfl, by omega⟩)
      have dC : CLM (mj_ui C 91 3 (nI (skp t τ q + 1))) x ks := CLM_fr cC (fun c k q1 q2 => ui_c (by omega))
      refine ⟨⟨by trivial, mj_isk_mk _ _⟩, t, τ, skp t τ q + 1, tot ks, x, ks.length, ⟨⟨TM_d TC' dD, ui_s, h3', by rw [ui_k (by decide)]; exact c4, by rw [ui_k (by decide)]; exact c5, by rw [ui_k (by decide)]; exact c14, hx, by rw [ui_c (by decide)]; exact c95, by omega⟩, by rw [ui_c (by decide)]; exact cC.2.2.1, by omega⟩, fun E hE2 => ?_⟩
      have eF : fr (wF x) I E := fr_tr dF (l_wF (by omega) hE2.1)
      cases hs : clP t τ (skp t τ q + 1) with
      | error e =>
        rw [hs] at he
        obtain ⟨e3, e4⟩ := hE2.2.1 e hs
        exact e43 e E e3 he eF e4
      | ok r =>
        rw [hs] at he
        dsimp only at he
        obtain ⟨g3, g4, g5, gC, g96, g97, g98, g99⟩ := hE2.2.2 r hs
        obtain ⟨o1, o2, o3, -⟩ := (cl_ok h3').2 r hs
        have o5 := cl_tot h3' hs
        obtain ⟨u1, u2⟩ := CLM_push (p1 := r.1) (c := r.2) dC hE2 hs o3 (by omega) (by omega)
        refine ih r.1 (ks ++ [r.2]) E (by omega) (by rw [List.length_append, List.length_singleton]; omega) o2 (by rw [tot_app]; omega) g3 g4 g5 u1 u2 ?_ eF he
        rw [hE2.1 91 14 (by unfold lF qF; omega), ui_k (by decide)]; exact c14
  simp (disch := omega) only [jn_in, jn_cl, gd_dec]
  generalize hZ : mj_ui (mj_ui (mj_ui (mj_ui (mj_ui (mj_ui I 91 14 (nI x)) 91 3 0) 91 4 (-1)) 91 5 0) 95 x 0) 96 x 0 = Z
  have zF : fr (wF x) I Z := by rw [← hZ]; exact fr_ui (fr_ui (fr_ui (fr_ui (fr_ui (fr_ui fr_rf (Or.inl ⟨rfl, by omega⟩)) (Or.inl ⟨rfl, by omega⟩)) (Or.inl ⟨rfl, by omega⟩)) (Or.inl ⟨rfl, by omega⟩)) (Or.inr (Or.inr (Or.inl ⟨Or.inl rfl, rfl⟩)))) (Or.inr (Or.inr (Or.inl ⟨Or.inr rfl, rfl⟩)))
  have z14 : Z 91 14 = nI x := by rw [← hZ, ui_c (by decide), ui_c (by decide), ui_k (by decide), ui_k (by decide), ui_k (by decide), ui_s]
  have z3 : Z 91 3 = nI 0 := by rw [← hZ, ui_c (by decide), ui_c (by decide), ui_k (by decide), ui_k (by decide), ui_s]; rfl
  have z4 : Z 91 4 = -1 := by rw [← hZ, ui_c (by decide), ui_c (by decide), ui_k (by decide), ui_s]
  have z5 : Z 91 5 = nI 0 := by rw [← hZ, ui_c (by decide), ui_c (by decide), ui_s]; rfl
  have z95 : Z 95 x = nI 0 := by rw [← hZ, ui_c (by decide), ui_s]; rfl
  have z96 : Z 96 x = nI 0 := by rw [← hZ, ui_s]; rfl
  have TZ : TM Z t τ := TM_fr hT (zF 91 2 (by unfold wF; omega)) (fun k => zF 92 k (by unfold wF; omega))
  refine ⟨⟨by trivial, mj_isk_mk _ _⟩, t, τ, 0, 0, x, 0, ⟨⟨TZ, z3, by omega, z4, z5, z14, hx, z95, by omega⟩, z96, by decide⟩, fun E hE2 => ?_⟩
  have eF : fr (wF x) I E := fr_tr zF (l_wF (by decide) hE2.1)
  have he : ruP t τ = (match clP t τ 0 with
      | .error e => .error e
      | .ok r => if nsg t τ r.1 = 59 then rlP t τ t (skp t τ r.1 + 1) ([] ++ [r.2]) else if nsg t τ r.1 = -1 then .ok ([] ++ [r.2]) else .error (skp t τ r.1)) := by unfold ruP; rw [rlP]; all_goals rfl
  cases hs : clP t τ 0 with
  | error e =>
    rw [hs] at he
    obtain ⟨e3, e4⟩ := hE2.2.1 e hs
    exact e43 e E e3 he eF e4
  | ok r =>
    rw [hs] at he
    dsimp only at he
    obtain ⟨g3, g4, g5, gC, g96, g97, g98, g99⟩ := hE2.2.2 r hs
    obtain ⟨o1, o2, o3, -⟩ := (cl_ok (τ := τ) (Nat.zero_le t)).2 r hs
    have o5 := cl_tot (Nat.zero_le t) hs
    have C0 : CLM Z x [] := ⟨fun q hq => absurd hq List.not_mem_nil, by show 0 ≤ 140; omega, z96, fun c hc => absurd hc (Nat.not_lt_zero c)⟩
    obtain ⟨u1, u2⟩ := CLM_push (p1 := r.1) (c := r.2) (ks := []) C0 hE2 hs o3 (by show 0 + _ ≤ 520; omega) (by show 0 + 1 ≤ 140; omega)
    refine key t r.1 ([] ++ [r.2]) E (by omega) (by show 3 * 1 ≤ r.1; omega) o2 (by rw [tot_app]; show 0 + _ ≤ r.1; omega) g3 g4 g5 u1 u2 ?_ eF he
    rw [hE2.1 91 14 (by unfold lF qF; omega)]; exact z14
theorem sdX12_readLaw : mj_Sd mX12_readLaw 43 tX12_readLaw := by
  intro Ω l d hd as M Φ h
  unfold tX12_readLaw at h
  split at h
  · rename_i z_this x_
    obtain ⟨⟨rfl, hM⟩, x, rfl, t, τ, hp, h⟩ := h
    rw [mj_isk_of hM]
    exact mnX12_readLaw hd x t τ _ _ hp (by
      rw [mj_isk_of hM] at h
      exact h)
  · exact h.elim
