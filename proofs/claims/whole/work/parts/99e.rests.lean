/-! ===== rests on both sides (by program, wip/whole/p102.py) ===== -/
theorem isRs_c {n r : Nat} {W V : Nat → Int32} (h : ∀ t, t < 3 → W t = V t) : isRs n r W = isRs n r V := by
  unfold isRs rsB
  refine propext ⟨fun q b hb t ht => ?_, fun q b hb t ht => ?_⟩
  · rw [← h t ht, ← h _ dg_b]; exact q b hb t ht
  · rw [h t ht, h _ dg_b]; exact q b hb t ht
noncomputable def rsN (n : Nat) (W : Nat → Int32) (r : Nat) : Nat := cnt (fun q => isRs n q W) r
def dgV (n r : Nat) : Int32 := dgN (fun b => nI (dg n r b)) n
/-- the i-th row at rest from row r on -/
noncomputable def fR (n : Nat) (W : Nat → Int32) (i : Int32) : Nat → Nat → Int32
  | 0, _ => -1
  | k + 1, r => cif (isRs n r W) (cif (nI (rsN n W r) = i) (dgV n r) (fR n W i k (r + 1))) (fR n W i k (r + 1))
theorem rsN_c {n : Nat} {W V : Nat → Int32} (h : ∀ t, t < 3 → W t = V t) (r : Nat) : rsN n W r = rsN n V r := by
  unfold rsN
  rw [show (fun q => isRs n q W) = (fun q => isRs n q V) from funext (fun q => isRs_c h)]
theorem fR_c {n : Nat} {W V : Nat → Int32} {i : Int32} (h : ∀ t, t < 3 → W t = V t) : ∀ k r, fR n W i k r = fR n V i k r
  | 0, _ => rfl
  | k + 1, r => by unfold fR; rw [isRs_c h, rsN_c h, fR_c h k (r + 1)]
theorem rsN_le (n : Nat) (W : Nat → Int32) (r : Nat) : rsN n W r ≤ r := cnt_le _ _
theorem fR_neg {n : Nat} {W : Nat → Int32} {i : Int32} (hi : i < 0) : ∀ k r, r + k ≤ 243 → fR n W i k r = -1
  | 0, _, _ => rfl
  | k + 1, r, h => by
    have e : ¬ nI (rsN n W r) = i := fun w => by
      have := rsN_le n W r
      rw [← w, Int32.lt_iff_toInt_lt, i_0, jn_toInt (by omega)] at hi
      omega
    unfold fR
    rw [cif_f e, fR_neg hi k (r + 1) (by omega)]
    by_cases q : isRs n r W
    · rw [cif_t q]
    · rw [cif_f q]
theorem dgN_c {f g : Nat → Int32} : ∀ n, (∀ b, b < n → f b = g b) → dgN f n = dgN g n
  | 0, _ => rfl
  | n + 1, h => by unfold dgN; rw [dgN_c n (fun b hb => h b (by omega)), h n (by omega)]
/-- the first row at rest -/
def fsR (n : Nat) (W : Nat → Int32) (r : Nat) : Prop := r < 3 ^ n ∧ isRs n r W ∧ ∀ q, q < r → ¬ isRs n q W
def csX9_findRest : List (Nat × Nat × Nat × mj_PT) := [(28, 0, 2, mj_rcv 9 tX9_isRest), (32, 0, 1, mj_rcv 9 tX9_digits)]
theorem csX9_findRest_ok : mj_Cs mX9_findRest 3 csX9_findRest := (mj_CsV (D' := 2) (ci := 9) (q := (RX9, TX9, 5)) sdX9_isRest (Nat.le_of_ble_eq_true rfl) fX9_isRest rfl rfl iX9_isRest vX9_isRest (by decide +kernel) l9_28 (mj_CsV (D' := 1) (ci := 9) (q := (RX9, TX9, 5)) sdX9_digits (Nat.le_of_ble_eq_true rfl) fX9_digits rfl rfl iX9_digits vX9_digits (by decide +kernel) l9_32 mj_Cs0))
def cutX9_findRest : List (Nat × List Bool) := [(4, [true, true, true, true])]
set_option maxRecDepth 100000 in
set_option maxHeartbeats 4000000 in
theorem inX9_findRest {Ω : mj_Om} {l : Launch} {d : Nat} {Φ : Option Value → mj_M → Prop} (hd : 3 ≤ d) (i : Int32) (I : Nat → Nat → Int32) (J : Nat → Nat → Int64)
    (h : ((mj_G Ω l false mX9_findRest d 0 0 Φ 0 0 4 ([some (.ref 82), some (.int i), some (.int (0 : Int32)), some (.int (0 : Int32))], [], (mk I J))))) :
    mj_Met Ω l false mX9_findRest d 0 0 [.ref 82, .int i] (mk I J) Φ := mj_entry (by decide) rfl (fun h => (by cases h)) (Nat.le_of_ble_eq_true rfl) (mj_blk (μ := mX9_findRest) (P := pX9_findRest) (cut := cutX9_findRest) (cs := csX9_findRest) dX9_findRest csX9_findRest_ok hd 24 0 _ h)
set_option maxRecDepth 100000 in
set_option maxHeartbeats 4000000 in
theorem bX9_findRest_4 {Ω : mj_Om} {l : Launch} {d : Nat} {Φ : Option Value → mj_M → Prop} (hd : 3 ≤ d) (x1 : Int32) (x2 : Int32) (x3 : Int32) (I : Nat → Nat → Int32) (J : Nat → Nat → Int64)
    (h : ((if x3 < (I 82 4) then ((82 = 82 ∧ mj_isk (mk I J)) ∧ (∃ r3410 : Nat, x3 = nI r3410 ∧ (∃ n3411 : Nat, ((n3411 ≤ 5 ∧ I 82 3 = nI n3411 ∧ r3410 < 2147483648) ∧ (∀ I3412 : Nat → Nat → Int32, ((∀ b, b < n3411 → I3412 83 b = nI (dg n3411 r3410 b)) ∧ (∀ t, t < 3 → I3412 84 t = nI (crd n3411 r3410 t)) ∧ fr (fun c _ => c = 83 ∨ c = 84) I I3412) → (if (b2i (isRs n3411 r3410 (fun t => I 85 t))) = (0 : Int32) then (mj_G Ω l false mX9_findRest d 0 0 Φ 0 0 4 ([some (.ref 82), some (.int x1), some (.int x2), some (.int (x3 + (1 : Int32)))], [], (mk I3412 J))) else (if x2 = x1 then ((82 = 82 ∧ mj_isk (mk I3412 J)) ∧ (∃ n3414 : Nat, ((n3414 ≤ 5 ∧ I3412 82 3 = nI n3414) ∧ (Φ (some (.int (dgN (fun b => I3412 83 b) n3414))) (mk I3412 J))))) else (mj_G Ω l false mX9_findRest d 0 0 Φ 0 0 4 ([some (.ref 82), some (.int x1), some (.int (x2 + (1 : Int32))), some (.int (x3 + (1 : Int32)))], [], (mk I3412 J)))))))))) else (Φ (some (.int (-1 : Int32))) (mk I J))))) :
    mj_G Ω l false mX9_findRest d 0 0 Φ 0 0 4 ([some (.ref 82), some (.int x1), some (.int x2), some (.int x3)], [], mk I J) := mj_blk (μ := mX9_findRest) (P := pX9_findRest) (cut := cutX9_findRest) (cs := csX9_findRest) dX9_findRest csX9_findRest_ok hd 24 4 _ h
def tX9_findRest : mj_PT := fun as M Φ => match as with
  | [.ref this, .int i] => ((this = 82 ∧ mj_isk M) ∧ (∃ n : Nat, ((n ≤ 5 ∧ M.2.2.1 82 3 = nI n ∧ M.2.2.1 82 4 = nI (3 ^ n)) ∧ (∀ I1 : Nat → Nat → Int32, ((i = 0 → ∀ r, fsR n (fun t => M.2.2.1 85 t) r → ∀ t, t < 3 → I1 84 t = nI (crd n r t)) ∧ fr (fun c _ => c = 83 ∨ c = 84) M.2.2.1 I1) → Φ (some (.int (fR n (fun t => M.2.2.1 85 t) i (3 ^ n) 0))) (M.1, M.2.1, I1, M.2.2.2)))))
  | _ => False
set_option maxHeartbeats 4000000 in
theorem mnX9_findRest {Ω : mj_Om} {l : Launch} {d : Nat} {Φ : Option Value → mj_M → Prop} (hd : 3 ≤ d) (i : Int32) (n : Nat) (I : Nat → Nat → Int32) (J : Nat → Nat → Int64) (hp : n ≤ 5 ∧ I 82 3 = nI n ∧ I 82 4 = nI (3 ^ n)) (h : ∀ I1 : Nat → Nat → Int32, ((i = 0 → ∀ r, fsR n (fun t => I 85 t) r → ∀ t, t < 3 → I1 84 t = nI (crd n r t)) ∧ fr (fun c _ => c = 83 ∨ c = 84) I I1) → Φ (some (.int (fR n (fun t => I 85 t) i (3 ^ n) 0))) (mk I1 J)) : mj_Met Ω l false mX9_findRest d 0 0 [.ref 82, .int i] (mk I J) Φ := by
  refine inX9_findRest hd i I J ?_
  obtain ⟨hn, h3, h4⟩ := hp
  have hq := p243 hn
  have key : ∀ (k r : Nat) (A : Nat → Nat → Int32), r + k = 3 ^ n → fr (fun c _ => c = 83 ∨ c = 84) I A → (i = 0 → ∀ q, q < r → ¬ isRs n q (fun t => I 85 t)) → (∀ I1 : Nat → Nat → Int32, ((i = 0 → ∀ r, fsR n (fun t => I 85 t) r → ∀ t, t < 3 → I1 84 t = nI (crd n r t)) ∧ fr (fun c _ => c = 83 ∨ c = 84) I I1) → Φ (some (.int (fR n (fun t => I 85 t) i k r))) (mk I1 J)) → mj_G Ω l false mX9_findRest d 0 0 Φ 0 0 4 ([some (.ref 82), some (.int i), some (.int (nI (rsN n (fun t => I 85 t) r))), some (.int (nI r))], [], mk A J) := by
    intro k
    induction k with
    | zero =>
      intro r A hr hA h0 h
      refine bX9_findRest_4 hd i _ (nI r) A J ?_
      rw [hA 82 4 (by (try dsimp only); omega), h4, if_neg (nnl (by omega) (by omega))]
      refine h A ⟨fun hi q hq t ht => ?_, hA⟩
      exact absurd hq.2.1 (h0 hi q (by have := hq.1; omega))
    | succ k ih =>
      intro r A hr hA h0 h
      have e5 : (fun t => A 85 t) = (fun t => I 85 t) := funext (fun t => hA 85 t (by (try dsimp only); omega))
      refine bX9_findRest_4 hd i _ (nI r) A J ?_
      rw [hA 82 4 (by (try dsimp only); omega), h4, if_pos (nlt (by omega) (by omega))]
      refine ⟨⟨by trivial, mj_isk_mk _ _⟩, r, rfl, n, ⟨hn, by rw [hA 82 3 (by (try dsimp only); omega)]; exact h3, by omega⟩, fun B hB => ?_⟩
      rw [e5, jn_succ, jn_succ]
      have hfr := fr_tr hA hB.2.2
      unfold fR at h
      have nl := rsN_le n (fun t => I 85 t) r
      by_cases z : isRs n r (fun t => I 85 t)
      · rw [cif_t z] at h
        rw [if_neg (by rw [b2i_e0]; exact fun w => w z)]
        by_cases y : nI (rsN n (fun t => I 85 t) r) = i
        · rw [cif_t y] at h
          rw [if_pos y]
          refine ⟨⟨by trivial, mj_isk_mk _ _⟩, n, ⟨hn, by rw [hfr 82 3 (by (try dsimp only); omega)]; exact h3⟩, ?_⟩
          rw [dgN_c (g := fun b => nI (dg n r b)) n hB.1]
          refine h B ⟨fun hi q hq t ht => ?_, hfr⟩
          have : q = r := by
            rcases Nat.lt_trichotomy q r with u | u | u
            · exact absurd hq.2.1 (h0 hi q u)
            · exact u
            · exact absurd z (hq.2.2 r u)
          rw [this]; exact hB.2.1 t ht
        · rw [cif_f y] at h
          rw [if_neg y]
          have es : rsN n (fun t => I 85 t) (r + 1) = rsN n (fun t => I 85 t) r + 1 := cnt_y (p := fun q => isRs n q (fun t => I 85 t)) z
          rw [← es]
          refine ih (r + 1) B (by omega) hfr (fun hi q u => ?_) h
          exfalso
          apply y
          have : rsN n (fun t => I 85 t) r = 0 := by
            have c0 : ∀ j, j ≤ r → rsN n (fun t => I 85 t) j = 0 := by
              intro j
              induction j with
              | zero => intro _; rfl
              | succ j ij => intro hj; exact (cnt_n (p := fun q => isRs n q (fun t => I 85 t)) (h0 hi j (by omega))).trans (ij (by omega))
            exact c0 r (Nat.le_refl r)
          rw [this, hi]; rfl
      · rw [cif_f z] at h
        rw [if_pos (by rw [b2i_e0]; exact z)]
        have es : rsN n (fun t => I 85 t) (r + 1) = rsN n (fun t => I 85 t) r := cnt_n (p := fun q => isRs n q (fun t => I 85 t)) z
        rw [← es]
        refine ih (r + 1) B (by omega) hfr (fun hi q u => ?_) h
        rcases Nat.lt_or_ge q r with v | v
        · exact h0 hi q v
        · rw [show q = r by omega]; exact z
  exact key (3 ^ n) 0 I (by omega) fr_rf (fun _ q u => absurd u (Nat.not_lt_zero q)) h
theorem sdX9_findRest : mj_Sd mX9_findRest 3 tX9_findRest := by
  intro Ω l d hd as M Φ h
  unfold tX9_findRest at h
  split at h
  · rename_i z_this i
    obtain ⟨⟨rfl, hM⟩, n, hp, h⟩ := h
    rw [mj_isk_of hM]
    exact mnX9_findRest hd i n _ _ hp (by
      rw [mj_isk_of hM] at h
      exact h)
  · exact h.elim
noncomputable def fuR (n r : Nat) : Int32 := nI (max (max (crd n r 0) (crd n r 1)) (crd n r 2))
theorem crd_le (n r t : Nat) : crd n r t ≤ n := cnt_le _ _
def csX9_fullestOfFirstRest : List (Nat × Nat × Nat × mj_PT) := [(36, 0, 2, mj_rcv 9 tX9_findRest)]
theorem csX9_fullestOfFirstRest_ok : mj_Cs mX9_fullestOfFirstRest 4 csX9_fullestOfFirstRest := (mj_CsV (D' := 3) (ci := 9) (q := (RX9, TX9, 5)) sdX9_findRest (Nat.le_of_ble_eq_true rfl) fX9_findRest rfl rfl iX9_findRest vX9_findRest (by decide +kernel) l9_36 mj_Cs0)
def cutX9_fullestOfFirstRest : List (Nat × List Bool) := []
set_option maxRecDepth 100000 in
set_option maxHeartbeats 4000000 in
theorem inX9_fullestOfFirstRest {Ω : mj_Om} {l : Launch} {d : Nat} {Φ : Option Value → mj_M → Prop} (hd : 4 ≤ d) (I : Nat → Nat → Int32) (J : Nat → Nat → Int64)
    (h : (((82 = 82 ∧ mj_isk (mk I J)) ∧ (∃ n3420 : Nat, ((n3420 ≤ 5 ∧ I 82 3 = nI n3420 ∧ I 82 4 = nI (3 ^ n3420)) ∧ (∀ I3421 : Nat → Nat → Int32, (((0 : Int32) = 0 → ∀ r, fsR n3420 (fun t => I 85 t) r → ∀ t, t < 3 → I3421 84 t = nI (crd n3420 r t)) ∧ fr (fun c _ => c = 83 ∨ c = 84) I I3421) → (if (I3421 84 1) < (I3421 84 0) then (if (I3421 84 0) < (I3421 84 2) then (Φ (some (.int (I3421 84 2))) (mk I3421 J)) else (Φ (some (.int (I3421 84 0))) (mk I3421 J))) else (if (I3421 84 1) < (I3421 84 2) then (Φ (some (.int (I3421 84 2))) (mk I3421 J)) else (Φ (some (.int (I3421 84 1))) (mk I3421 J)))))))))) :
    mj_Met Ω l false mX9_fullestOfFirstRest d 0 0 [.ref 82] (mk I J) Φ := mj_entry (by decide) rfl (fun h => (by cases h)) (Nat.le_of_ble_eq_true rfl) (mj_blk (μ := mX9_fullestOfFirstRest) (P := pX9_fullestOfFirstRest) (cut := cutX9_fullestOfFirstRest) (cs := csX9_fullestOfFirstRest) dX9_fullestOfFirstRest csX9_fullestOfFirstRest_ok hd 37 0 _ h)
def tX9_fullestOfFirstRest : mj_PT := fun as M Φ => match as with
  | [.ref this] => ((this = 82 ∧ mj_isk M) ∧ (∃ n : Nat, (∃ r : Nat, ((n ≤ 5 ∧ M.2.2.1 82 3 = nI n ∧ M.2.2.1 82 4 = nI (3 ^ n) ∧ fsR n (fun t => M.2.2.1 85 t) r) ∧ (∀ I1 : Nat → Nat → Int32, (fr (fun c _ => c = 83 ∨ c = 84) M.2.2.1 I1) → Φ (some (.int (fuR n r))) (M.1, M.2.1, I1, M.2.2.2))))))
  | _ => False
set_option maxHeartbeats 4000000 in
theorem mnX9_fullestOfFirstRest {Ω : mj_Om} {l : Launch} {d : Nat} {Φ : Option Value → mj_M → Prop} (hd : 4 ≤ d) (n : Nat) (r : Nat) (I : Nat → Nat → Int32) (J : Nat → Nat → Int64) (hp : n ≤ 5 ∧ I 82 3 = nI n ∧ I 82 4 = nI (3 ^ n) ∧ fsR n (fun t => I 85 t) r) (h : ∀ I1 : Nat → Nat → Int32, (fr (fun c _ => c = 83 ∨ c = 84) I I1) → Φ (some (.int (fuR n r))) (mk I1 J)) : mj_Met Ω l false mX9_fullestOfFirstRest d 0 0 [.ref 82] (mk I J) Φ := by
  refine inX9_fullestOfFirstRest hd I J ?_
  obtain ⟨hn, h3, h4, hr⟩ := hp
  refine ⟨⟨by trivial, mj_isk_mk _ _⟩, n, ⟨hn, h3, h4⟩, fun A hA => ?_⟩
  obtain ⟨a1, a2⟩ := hA
  have b := a1 rfl r hr
  have c0 := crd_le n r 0
  have c1 := crd_le n r 1
  have c2 := crd_le n r 2
  rw [b 0 (by decide), b 1 (by decide), b 2 (by decide)]
  have h := h A a2
  unfold fuR at h
  by_cases q1 : crd n r 1 < crd n r 0
  · rw [if_pos (nlt q1 (by omega))]
    by_cases q2 : crd n r 0 < crd n r 2
    · rw [if_pos (nlt q2 (by omega))]; rw [show max (max (crd n r 0) (crd n r 1)) (crd n r 2) = crd n r 2 by omega] at h; exact h
    · rw [if_neg (nnl (by omega) (by omega))]; rw [show max (max (crd n r 0) (crd n r 1)) (crd n r 2) = crd n r 0 by omega] at h; exact h
  · rw [if_neg (nnl (by omega) (by omega))]
    by_cases q2 : crd n r 1 < crd n r 2
    · rw [if_pos (nlt q2 (by omega))]; rw [show max (max (crd n r 0) (crd n r 1)) (crd n r 2) = crd n r 2 by omega] at h; exact h
    · rw [if_neg (nnl (by omega) (by omega))]; rw [show max (max (crd n r 0) (crd n r 1)) (crd n r 2) = crd n r 1 by omega] at h; exact h
theorem sdX9_fullestOfFirstRest : mj_Sd mX9_fullestOfFirstRest 4 tX9_fullestOfFirstRest := by
  intro Ω l d hd as M Φ h
  unfold tX9_fullestOfFirstRest at h
  split at h
  · rename_i z_this
    obtain ⟨⟨rfl, hM⟩, n, r, hp, h⟩ := h
    rw [mj_isk_of hM]
    exact mnX9_fullestOfFirstRest hd n r _ _ hp (by
      rw [mj_isk_of hM] at h
      exact h)
  · exact h.elim
theorem cnt_r1 {p : Nat → Prop} {b : Nat} (h : ¬ p b) (n : Nat) : cnt (fun o => ¬ o = b ∧ p o) n = cnt p n := cnt_c (fun i _ => ⟨fun q => q.2, fun q => ⟨fun e => h (e ▸ q), q⟩⟩)
theorem cnt_r2 {p : Nat → Prop} {b : Nat} (h : p b) : ∀ n, b < n → cnt (fun o => ¬ o = b ∧ p o) n + 1 = cnt p n
  | 0, hb => absurd hb (Nat.not_lt_zero b)
  | n + 1, hb => by
    by_cases e : n = b
    · subst e
      rw [cnt_y (p := p) h, cnt_n (p := fun o => ¬ o = n ∧ p o) (fun w => w.1 rfl), cnt_c (p := fun o => ¬ o = n ∧ p o) (q := p) (fun i hi => ⟨fun q => q.2, fun q => ⟨by omega, q⟩⟩)]
    · have ih := cnt_r2 h n (by omega)
      by_cases q : p n
      · rw [cnt_y (p := p) q, cnt_y (p := fun o => ¬ o = b ∧ p o) ⟨e, q⟩, ih]
      · rw [cnt_n (p := p) q, cnt_n (p := fun o => ¬ o = b ∧ p o) (fun w => q w.2), ih]
theorem rs_own {n r b : Nat} (hb : b < n) : cnt (fun o => ¬ o = b ∧ dg n r o = dg n r b) n + 1 = crd n r (dg n r b) := cnt_r2 (p := fun o => dg n r o = dg n r b) rfl n hb
theorem rs_oth {n r b t : Nat} (ht : ¬ t = dg n r b) : cnt (fun o => ¬ o = b ∧ dg n r o = t) n = crd n r t := cnt_r1 (p := fun o => dg n r o = t) (fun w => ht w.symm) n
theorem rs_ref {n r b t : Nat} {f : Nat → Int32} {W : Nat → Int32} (hf : ∀ o, o < n → f o = nI (dg n r o)) (hb : b < n) (ht : t < 3) : (¬ W (dg n r b) - nI (2 * cnt (fun o => ¬ o = b ∧ f o = nI (dg n r b)) n) < W t - nI (2 * cnt (fun o => ¬ o = b ∧ f o = nI t) n)) ↔ rsB n r W b t := by
  have g : ∀ s, s < 3 → cnt (fun o => ¬ o = b ∧ f o = nI s) n = cnt (fun o => ¬ o = b ∧ dg n r o = s) n := fun s hs => cnt_c (fun o ho => by
    have := dg_b (n := n) (k := r) (b := o)
    rw [hf o ho, jn_eq (by omega) (by omega)])
  rw [g _ dg_b, g t ht]
  unfold rsB
  have e1 := rs_own (r := r) hb
  have e2 : nI (2 * cnt (fun o => ¬ o = b ∧ dg n r o = dg n r b) n) = 2 * (nI (crd n r (dg n r b)) - 1) := by
    rw [← e1, ← jn_succ, Int32.add_sub_cancel]
    exact (jn_mul' 2 _).symm
  rw [e2]
  by_cases q : t = dg n r b
  · rw [q]
    refine ⟨fun _ w => absurd rfl w, fun _ => ?_⟩
    have e3 : nI (2 * cnt (fun o => ¬ o = b ∧ dg n r o = dg n r b) n) = 2 * (nI (crd n r (dg n r b)) - 1) := e2
    rw [e3]
    exact Int32.lt_irrefl
  · rw [rs_oth q, show nI (2 * crd n r t) = 2 * nI (crd n r t) from (jn_mul' 2 _).symm]
    exact ⟨fun w _ => w, fun w => w q⟩
def csX12_isRest : List (Nat × Nat × Nat × mj_PT) := [(404, 0, 4, mj_rcv 12 tX12_thirdWorth)]
theorem csX12_isRest_ok : mj_Cs mX12_isRest 2 csX12_isRest := (mj_CsV (D' := 1) (ci := 12) (q := (RX12, TX12, 45)) sdX12_thirdWorth (Nat.le_of_ble_eq_true rfl) fX12_thirdWorth rfl rfl iX12_thirdWorth vX12_thirdWorth (by decide +kernel) l12_404 mj_Cs0)
def cutX12_isRest : List (Nat × List Bool) := [(2, [true, true, true, false]), (12, [true, true, true, true])]
set_option maxRecDepth 100000 in
set_option maxHeartbeats 4000000 in
theorem inX12_isRest {Ω : mj_Om} {l : Launch} {d : Nat} {Φ : Option Value → mj_M → Prop} (hd : 2 ≤ d) (a : Int32) (I : Nat → Nat → Int32) (J : Nat → Nat → Int64)
    (h : ((mj_G Ω l false mX12_isRest d 0 0 Φ 0 0 2 ([some (.ref 91), some (.int a), some (.int (0 : Int32)), none], [], (mk I J))))) :
    mj_Met Ω l false mX12_isRest d 0 0 [.ref 91, .int a] (mk I J) Φ := mj_entry (by decide) rfl (fun h => (by cases h)) (Nat.le_of_ble_eq_true rfl) (mj_blk (μ := mX12_isRest) (P := pX12_isRest) (cut := cutX12_isRest) (cs := csX12_isRest) dX12_isRest csX12_isRest_ok hd 34 0 _ h)
set_option maxRecDepth 100000 in
set_option maxHeartbeats 4000000 in
theorem bX12_isRest_2 {Ω : mj_Om} {l : Launch} {d : Nat} {Φ : Option Value → mj_M → Prop} (hd : 2 ≤ d) (x1 : Int32) (x2 : Int32) (I : Nat → Nat → Int32) (J : Nat → Nat → Int64)
    (h : ((if x2 < (I 91 22) then (mj_G Ω l false mX12_isRest d 0 0 Φ 0 0 12 ([some (.ref 91), some (.int x1), some (.int x2), some (.int (0 : Int32))], [], (mk I J))) else (Φ (some (.int (1 : Int32))) (mk I J))))) :
    mj_G Ω l false mX12_isRest d 0 0 Φ 0 0 2 ([some (.ref 91), some (.int x1), some (.int x2), none], [], mk I J) := mj_blk (μ := mX12_isRest) (P := pX12_isRest) (cut := cutX12_isRest) (cs := csX12_isRest) dX12_isRest csX12_isRest_ok hd 34 2 _ h
set_option maxRecDepth 100000 in
set_option maxHeartbeats 4000000 in
theorem bX12_isRest_12 {Ω : mj_Om} {l : Launch} {d : Nat} {Φ : Option Value → mj_M → Prop} (hd : 2 ≤ d) (x1 : Int32) (x2 : Int32) (x3 : Int32) (I : Nat → Nat → Int32) (J : Nat → Nat → Int64)
    (h : ((if x3 < (3 : Int32) then ((91 = 91 ∧ mj_isk (mk I J)) ∧ (∃ b3431 : Nat, x2 = nI b3431 ∧ (∃ t3432 : Nat, x3 = nI t3432 ∧ ((okM I ∧ b3431 < 8 ∧ t3432 < 3) ∧ (mj_gd (mj_inB x2 8) ((91 = 91 ∧ mj_isk (mk I J)) ∧ (∃ b3435 : Nat, x2 = nI b3435 ∧ (∃ t3436 : Nat, (I 112 (x2).toNatClampNeg) = nI t3436 ∧ ((okM I ∧ b3435 < 8 ∧ t3436 < 3) ∧ (if (wo (I 104 2) x1 t3436 - nI (2 * cnt (fun o => ¬ o = b3435 ∧ I 112 o = nI t3436) (nM I))) < (wo (I 104 2) x1 t3432 - nI (2 * cnt (fun o => ¬ o = b3431 ∧ I 112 o = nI t3432) (nM I))) then (Φ (some (.int (0 : Int32))) (mk I J)) else (mj_G Ω l false mX12_isRest d 0 0 Φ 0 0 12 ([some (.ref 91), some (.int x1), some (.int x2), some (.int (x3 + (1 : Int32)))], [], (mk I J))))))))))))) else (mj_G Ω l false mX12_isRest d 0 0 Φ 0 0 2 ([some (.ref 91), some (.int x1), some (.int (x2 + (1 : Int32))), none], [], (mk I J)))))) :
    mj_G Ω l false mX12_isRest d 0 0 Φ 0 0 12 ([some (.ref 91), some (.int x1), some (.int x2), some (.int x3)], [], mk I J) := mj_blk (μ := mX12_isRest) (P := pX12_isRest) (cut := cutX12_isRest) (cs := csX12_isRest) dX12_isRest csX12_isRest_ok hd 34 12 _ h
def tX12_isRest : mj_PT := fun as M Φ => match as with
  | [.ref this, .int a] => ((this = 91 ∧ mj_isk M) ∧ (∃ r : Nat, ((okM M.2.2.1 ∧ nM M.2.2.1 ≤ 5 ∧ (∀ b, b < nM M.2.2.1 → M.2.2.1 112 b = nI (dg (nM M.2.2.1) r b))) ∧ Φ (some (.int (b2i (isRs (nM M.2.2.1) r (wo (M.2.2.1 104 2) a))))) M)))
  | _ => False
set_option maxHeartbeats 4000000 in
theorem mnX12_isRest {Ω : mj_Om} {l : Launch} {d : Nat} {Φ : Option Value → mj_M → Prop} (hd : 2 ≤ d) (a : Int32) (r : Nat) (I : Nat → Nat → Int32) (J : Nat → Nat → Int64) (hp : okM I ∧ nM I ≤ 5 ∧ (∀ b, b < nM I → I 112 b = nI (dg (nM I) r b))) (h : Φ (some (.int (b2i (isRs (nM I) r (wo (I 104 2) a))))) (mk I J)) : mj_Met Ω l false mX12_isRest d 0 0 [.ref 91, .int a] (mk I J) Φ := by
  refine inX12_isRest hd a I J ?_
  obtain ⟨⟨hc, hn⟩, hn5, hf⟩ := hp
  refine lp_inv (σ := Unit) (n := nM I) (G := fun b _ => mj_G Ω l false mX12_isRest d 0 0 Φ 0 0 2 ([some (.ref 91), some (.int a), some (.int (nI b)), none], [], mk I J)) (fun b _ => ∀ c, c < b → ∀ t, t < 3 → rsB (nM I) r (wo (I 104 2) a) c t) (fun b _ hb hI hk => ?_) (fun _ hI => ?_) (nM I) 0 () (by omega) (fun c hc => absurd hc (Nat.not_lt_zero c))
  · refine bX12_isRest_2 hd a (nI b) I J ?_
    rw [hc, if_pos (nlt hb (by omega))]
    refine lp_inv (σ := Unit) (n := 3) (G := fun t _ => mj_G Ω l false mX12_isRest d 0 0 Φ 0 0 12 ([some (.ref 91), some (.int a), some (.int (nI b)), some (.int (nI t))], [], mk I J)) (fun t _ => ∀ s, s < t → rsB (nM I) r (wo (I 104 2) a) b s) (fun t _ ht hT hkk => ?_) (fun _ hT => ?_) 3 0 () (by omega) (fun c hc => absurd hc (Nat.not_lt_zero c))
    · refine bX12_isRest_12 hd a (nI b) (nI t) I J ?_
      rw [if_pos (show nI t < (3 : Int32) from nlt (b := 3) ht (by omega))]
      refine ⟨⟨by trivial, mj_isk_mk _ _⟩, b, rfl, t, rfl, ⟨⟨hc, hn⟩, by omega, ht⟩, ?_⟩
      simp (disch := omega) only [jn_in, jn_cl, gd_dec]
      refine ⟨⟨by trivial, mj_isk_mk _ _⟩, b, rfl, dg (nM I) r b, hf b hb, ⟨⟨hc, hn⟩, by omega, dg_b⟩, ?_⟩
      have key := rs_ref (n := nM I) (r := r) (b := b) (t := t) (f := I 112) (W := wo (I 104 2) a) hf hb ht
      by_cases z : wo (I 104 2) a (dg (nM I) r b) - nI (2 * cnt (fun o => ¬ o = b ∧ I 112 o = nI (dg (nM I) r b)) (nM I)) < wo (I 104 2) a t - nI (2 * cnt (fun o => ¬ o = b ∧ I 112 o = nI t) (nM I))
      · rw [if_pos z]
        have : ¬ isRs (nM I) r (wo (I 104 2) a) := fun w => (key.mpr (w b hb t ht)) z
        rw [b2i_0 this] at h
        exact h
      · rw [if_neg z, jn_succ]
        refine hkk () (fun s hs => ?_)
        rcases Nat.lt_or_ge s t with u | u
        · exact hT s u
        · rw [show s = t by omega]; exact key.mp z
    · refine bX12_isRest_12 hd a (nI b) (nI 3) I J ?_
      rw [if_neg (show ¬ nI 3 < (3 : Int32) from nnl (b := 3) (by omega) (by omega)), jn_succ]
      refine hk () (fun c hc2 t ht => ?_)
      rcases Nat.lt_or_ge c b with u | u
      · exact hI c u t ht
      · rw [show c = b by omega]; exact hT t ht
  · refine bX12_isRest_2 hd a (nI (nM I)) I J ?_
    rw [hc, if_neg Int32.lt_irrefl]
    rw [b2i_1 (p := isRs (nM I) r (wo (I 104 2) a)) hI] at h
    exact h
theorem sdX12_isRest : mj_Sd mX12_isRest 2 tX12_isRest := by
  intro Ω l d hd as M Φ h
  unfold tX12_isRest at h
  split at h
  · rename_i z_this a
    obtain ⟨⟨rfl, hM⟩, r, hp, h⟩ := h
    rw [mj_isk_of hM]
    exact mnX12_isRest hd a r _ _ hp (by
      rw [mj_isk_of hM] at h
      exact h)
  · exact h.elim
noncomputable def restR (n : Nat) (C : Nat → Int32) (i : Int32) : Int32 := cif (0 < n) (cif (5 < n) (-1000000) (if i = -1 then nI (rsN n (wo (C 2) (C 1)) (3 ^ n)) else fR n (wo (C 2) (C 1)) i (3 ^ n) 0)) (-1)
def csX11_rests : List (Nat × Nat × Nat × mj_PT) := [(204, 0, 1, mj_rcv 11 tX11_hasWater), (287, 0, 4, mj_rcv 9 tX9_set), (291, 0, 1, mj_rcv 9 tX9_countRests), (294, 0, 2, mj_rcv 9 tX9_findRest)]
theorem csX11_rests_ok : mj_Cs mX11_rests 4 csX11_rests := (mj_CsV (D' := 1) (ci := 11) (q := (RX11, TX11, 18)) sdX11_hasWater (Nat.le_of_ble_eq_true rfl) fX11_hasWater rfl rfl iX11_hasWater vX11_hasWater (by decide +kernel) l11_204 (mj_CsV (D' := 1) (ci := 9) (q := (RX9, TX9, 5)) sdX9_set (Nat.le_of_ble_eq_true rfl) fX9_set rfl rfl iX9_set vX9_set (by decide +kernel) l11_287 (mj_CsV (D' := 3) (ci := 9) (q := (RX9, TX9, 5)) sdX9_countRests (Nat.le_of_ble_eq_true rfl) fX9_countRests rfl rfl iX9_countRests vX9_countRests (by decide +kernel) l11_291 (mj_CsV (D' := 3) (ci := 9) (q := (RX9, TX9, 5)) sdX9_findRest (Nat.le_of_ble_eq_true rfl) fX9_findRest rfl rfl iX9_findRest vX9_findRest (by decide +kernel) l11_294 mj_Cs0))))
def cutX11_rests : List (Nat × List Bool) := []
set_option maxRecDepth 100000 in
set_option maxHeartbeats 4000000 in
theorem inX11_rests {Ω : mj_Om} {l : Launch} {d : Nat} {Φ : Option Value → mj_M → Prop} (hd : 4 ≤ d) (i : Int32) (I : Nat → Nat → Int32) (J : Nat → Nat → Int64)
    (h : ((if (0 : Int32) < (I 39 8) then (if (5 : Int32) < (I 39 8) then (Φ (some (.int (-1000000 : Int32))) (mk I J)) else ((82 = 82 ∧ mj_isk (mk I J)) ∧ (∃ n3448 : Nat, (I 39 8) = nI n3448 ∧ ((n3448 ≤ 5) ∧ (∀ I3449 : Nat → Nat → Int32, (I3449 82 3 = nI n3448 ∧ I3449 82 4 = nI (3 ^ n3448) ∧ (∀ t, t < 3 → I3449 85 t = wo (I 27 2) (I 27 1) t) ∧ fr (fun c k => c = 85 ∨ (c = 82 ∧ (k = 3 ∨ k = 4))) I I3449) → (if i = (-1 : Int32) then ((82 = 82 ∧ mj_isk (mk I3449 J)) ∧ (∃ n3451 : Nat, ((n3451 ≤ 5 ∧ I3449 82 3 = nI n3451 ∧ I3449 82 4 = nI (3 ^ n3451)) ∧ (∀ I3452 : Nat → Nat → Int32, (fr (fun c _ => c = 83 ∨ c = 84) I3449 I3452) → (Φ (some (.int (nI (cnt (fun r => isRs n3451 r (fun t => I3449 85 t)) (3 ^ n3451))))) (mk I3452 J)))))) else ((82 = 82 ∧ mj_isk (mk I3449 J)) ∧ (∃ n3454 : Nat, ((n3454 ≤ 5 ∧ I3449 82 3 = nI n3454 ∧ I3449 82 4 = nI (3 ^ n3454)) ∧ (∀ I3455 : Nat → Nat → Int32, ((i = 0 → ∀ r, fsR n3454 (fun t => I3449 85 t) r → ∀ t, t < 3 → I3455 84 t = nI (crd n3454 r t)) ∧ fr (fun c _ => c = 83 ∨ c = 84) I3449 I3455) → (Φ (some (.int (fR n3454 (fun t => I3449 85 t) i (3 ^ n3454) 0))) (mk I3455 J)))))))))))) else (Φ (some (.int (-1 : Int32))) (mk I J))))) :
    mj_Met Ω l false mX11_rests d 0 0 [.ref 0, .int i] (mk I J) Φ := mj_entry (by decide) rfl (fun h => (by cases h)) (Nat.le_of_ble_eq_true rfl) (mj_blk (μ := mX11_rests) (P := pX11_rests) (cut := cutX11_rests) (cs := csX11_rests) dX11_rests csX11_rests_ok hd 41 0 _ h)
def tX11_rests : mj_PT := fun as M Φ => match as with
  | [.ref this, .int i] => ((this = 0 ∧ mj_isk M) ∧ (∃ m : Nat, (∃ R : RF, ((qC M.2.2.1 m R) ∧ (∀ I1 : Nat → Nat → Int32, (fr Scr M.2.2.1 I1) → Φ (some (.int (restR (nF M.2.2.1 39) (lv7 (M.2.2.1 27)) i))) (M.1, M.2.1, I1, M.2.2.2))))))
  | _ => False
set_option maxHeartbeats 4000000 in
theorem mnX11_rests {Ω : mj_Om} {l : Launch} {d : Nat} {Φ : Option Value → mj_M → Prop} (hd : 4 ≤ d) (i : Int32) (m : Nat) (R : RF) (I : Nat → Nat → Int32) (J : Nat → Nat → Int64) (hp : qC I m R) (h : ∀ I1 : Nat → Nat → Int32, (fr Scr I I1) → Φ (some (.int (restR (nF I 39) (lv7 (I 27)) i))) (mk I1 J)) : mj_Met Ω l false mX11_rests d 0 0 [.ref 0, .int i] (mk I J) Φ := by
  refine inX11_rests hd i I J ?_
  obtain ⟨⟨hc, hn⟩, hR, hFF⟩ := id hp
  unfold restR at h
  rw [hc]
  by_cases q : (0 : Int32) < nI (nF I 39)
  case neg =>
    rw [if_neg q]
    rw [pos_n hn] at q
    rw [cif_f q] at h
    exact h I fr_rf
  rw [if_pos q]
  rw [pos_n hn] at q
  rw [cif_t q] at h
  by_cases q5 : 5 < nF I 39
  · rw [if_pos (show (5 : Int32) < nI (nF I 39) from nlt (a := 5) q5 (by omega))]
    rw [cif_t q5] at h
    exact h I fr_rf
  rw [if_neg (show ¬ (5 : Int32) < nI (nF I 39) from nnl (a := 5) (by omega) (by omega))]
  rw [cif_f q5] at h
  have e1 : lv7 (I 27) 1 = I 27 1 := lv7_at (by decide)
  have e2 : lv7 (I 27) 2 = I 27 2 := lv7_at (by decide)
  rw [e1, e2] at h
  refine ⟨⟨by trivial, mj_isk_mk _ _⟩, nF I 39, rfl, by omega, fun A hA => ?_⟩
  obtain ⟨a1, a2, a3, a4⟩ := hA
  by_cases z : i = -1
  · rw [if_pos z] at h ⊢
    refine ⟨⟨by trivial, mj_isk_mk _ _⟩, nF I 39, ⟨by omega, a1, a2⟩, fun B hB => ?_⟩
    rw [show cnt (fun r => isRs (nF I 39) r (fun t => A 85 t)) (3 ^ nF I 39) = rsN (nF I 39) (wo (I 27 2) (I 27 1)) (3 ^ nF I 39) from rsN_c a3 _]
    exact h B (fun c k w => by unfold Scr at w; rw [hB c k (by (try dsimp only); omega), a4 c k (by (try dsimp only); omega)])
  · rw [if_neg z] at h ⊢
    refine ⟨⟨by trivial, mj_isk_mk _ _⟩, nF I 39, ⟨by omega, a1, a2⟩, fun B hB => ?_⟩
    rw [fR_c (V := wo (I 27 2) (I 27 1)) a3]
    exact h B (fun c k w => by unfold Scr at w; rw [hB.2 c k (by (try dsimp only); omega), a4 c k (by (try dsimp only); omega)])
theorem sdX11_rests : mj_Sd mX11_rests 4 tX11_rests := by
  intro Ω l d hd as M Φ h
  unfold tX11_rests at h
  split at h
  · rename_i z_this i
    obtain ⟨⟨rfl, hM⟩, m, R, hp, h⟩ := h
    rw [mj_isk_of hM]
    exact mnX11_rests hd i m R _ _ hp (by
      rw [mj_isk_of hM] at h
      exact h)
  · exact h.elim
def csX12_rests : List (Nat × Nat × Nat × mj_PT) := [(407, 0, 1, mj_rcv 12 tX12_rows), (410, 0, 2, mj_rcv 12 tX12_layThirds), (413, 0, 2, mj_rcv 12 tX12_isRest)]
theorem csX12_rests_ok : mj_Cs mX12_rests 3 csX12_rests := (mj_CsV (D' := 1) (ci := 12) (q := (RX12, TX12, 45)) sdX12_rows (Nat.le_of_ble_eq_true rfl) fX12_rows rfl rfl iX12_rows vX12_rows (by decide +kernel) l12_407 (mj_CsV (D' := 1) (ci := 12) (q := (RX12, TX12, 45)) sdX12_layThirds (Nat.le_of_ble_eq_true rfl) fX12_layThirds rfl rfl iX12_layThirds vX12_layThirds (by decide +kernel) l12_410 (mj_CsV (D' := 2) (ci := 12) (q := (RX12, TX12, 45)) sdX12_isRest (Nat.le_of_ble_eq_true rfl) fX12_isRest rfl rfl iX12_isRest vX12_isRest (by decide +kernel) l12_413 mj_Cs0)))
def cutX12_rests : List (Nat × List Bool) := [(38, [true, true, true, true, true, false, false]), (74, [true, true, true, true, true, true, true])]
def pX12_rests_0 : List (Nat × Instr × Nat) := [(0, .aload_n 0, 1), (1, .getfield 255, 3), (4, .ifCond .ne 5, 3), (7, .iconst (-1), 1), (8, .ireturn, 1), (9, .aload_n 0, 1), (10, .getfield 255, 3), (13, .iconst 5, 1), (14, .if_icmp .le 7, 3), (17, .ldc_w 381, 3), (20, .ireturn, 1), (21, .iload_n 1, 1), (22, .iconst (-1), 1), (23, .if_icmp .ge 5, 3), (26, .iconst (-1), 1), (27, .ireturn, 1), (28, .aload_n 0, 1), (29, .invokevirtual 407, 3), (32, .istore_n 2, 1), (33, .iconst 0, 1), (34, .istore_n 3, 1), (35, .iconst 0, 1), (36, .istore 4, 2), (38, .iload 4, 2)]
set_option maxRecDepth 100000 in
theorem dX12_rests_0 : mj_pd cX12_rests pX12_rests_0 := mj_pdB (by decide +kernel)
set_option maxRecDepth 100000 in
set_option maxHeartbeats 4000000 in
theorem inX12_rests {Ω : mj_Om} {l : Launch} {d : Nat} {Φ : Option Value → mj_M → Prop} (hd : 3 ≤ d) (i : Int32) (I : Nat → Nat → Int32) (J : Nat → Nat → Int64)
    (h : ((if (I 91 22) = (0 : Int32) then (Φ (some (.int (-1 : Int32))) (mk I J)) else (if (5 : Int32) < (I 91 22) then (Φ (some (.int (-1000000 : Int32))) (mk I J)) else (if i < (-1 : Int32) then (Φ (some (.int (-1 : Int32))) (mk I J)) else ((91 = 91 ∧ mj_isk (mk I J)) ∧ ((okM I) ∧ (mj_G Ω l false mX12_rests d 0 0 Φ 0 0 38 ([some (.ref 91), some (.int i), some (.int (nI (3 ^ nM I))), some (.int (0 : Int32)), some (.int (0 : Int32)), none, none], [], (mk I J)))))))))) :
    mj_Met Ω l false mX12_rests d 0 0 [.ref 91, .int i] (mk I J) Φ := mj_entry (by decide) rfl (fun h => (by cases h)) (Nat.le_of_ble_eq_true rfl) (mj_blk (μ := mX12_rests) (P := pX12_rests_0) (cut := cutX12_rests) (cs := csX12_rests) dX12_rests_0 csX12_rests_ok hd 25 0 _ h)
def pX12_rests_38 : List (Nat × Instr × Nat) := [(38, .iload 4, 2), (40, .iload_n 2, 1), (41, .if_icmp .ge 75, 3), (44, .aload_n 0, 1), (45, .iload 4, 2), (47, .invokevirtual 410, 3), (50, .aload_n 0, 1), (51, .aload_n 0, 1), (52, .getfield 46, 3), (55, .iconst 1, 1), (56, .iaload, 1), (57, .invokevirtual 413, 3), (60, .ifCond .eq 50, 3), (63, .iload_n 3, 1), (64, .iload_n 1, 1), (65, .if_icmp .ne 42, 3), (68, .iconst 0, 1), (69, .istore 5, 2), (71, .iconst 0, 1), (72, .istore 6, 2), (74, .iload 6, 2), (107, .iinc 3 1, 3), (110, .iinc 4 1, 3), (113, .goto (-75), 3), (116, .iload_n 1, 1), (117, .iconst (-1), 1), (118, .if_icmp .ne 7, 3), (121, .iload_n 3, 1), (122, .goto 4, 3), (125, .iconst (-1), 1), (126, .ireturn, 1)]
set_option maxRecDepth 100000 in
theorem dX12_rests_38 : mj_pd cX12_rests pX12_rests_38 := mj_pdB (by decide +kernel)
set_option maxRecDepth 100000 in
set_option maxHeartbeats 4000000 in
theorem bX12_rests_38 {Ω : mj_Om} {l : Launch} {d : Nat} {Φ : Option Value → mj_M → Prop} (hd : 3 ≤ d) (x1 : Int32) (x2 : Int32) (x3 : Int32) (x4 : Int32) (I : Nat → Nat → Int32) (J : Nat → Nat → Int64)
    (h : ((if x4 < x2 then ((91 = 91 ∧ mj_isk (mk I J)) ∧ (∃ k3467 : Nat, x4 = nI k3467 ∧ ((okM I ∧ k3467 < 2147483648) ∧ (∀ I3468 : Nat → Nat → Int32, ((∀ b, b < nM I → I3468 112 b = nI (dg (nM I) k3467 b)) ∧ fr (fun c _ => c = 112) I I3468) → ((91 = 91 ∧ mj_isk (mk I3468 J)) ∧ (∃ r3470 : Nat, ((okM I3468 ∧ nM I3468 ≤ 5 ∧ (∀ b, b < nM I3468 → I3468 112 b = nI (dg (nM I3468) r3470 b))) ∧ (if (b2i (isRs (nM I3468) r3470 (wo (I3468 104 2) (I3468 104 1)))) = (0 : Int32) then (mj_G Ω l false mX12_rests d 0 0 Φ 0 0 38 ([some (.ref 91), some (.int x1), some (.int x2), some (.int x3), some (.int (x4 + (1 : Int32))), none, none], [], (mk I3468 J))) else (if x3 = x1 then (mj_G Ω l false mX12_rests d 0 0 Φ 0 0 74 ([some (.ref 91), some (.int x1), some (.int x2), some (.int x3), some (.int x4), some (.int (0 : Int32)), some (.int (0 : Int32))], [], (mk I3468 J))) else (mj_G Ω l false mX12_rests d 0 0 Φ 0 0 38 ([some (.ref 91), some (.int x1), some (.int x2), some (.int (x3 + (1 : Int32))), some (.int (x4 + (1 : Int32))), none, none], [], (mk I3468 J)))))))))))) else (if x1 = (-1 : Int32) then (Φ (some (.int x3)) (mk I J)) else (Φ (some (.int (-1 : Int32))) (mk I J)))))) :
    mj_G Ω l false mX12_rests d 0 0 Φ 0 0 38 ([some (.ref 91), some (.int x1), some (.int x2), some (.int x3), some (.int x4), none, none], [], mk I J) := mj_blk (μ := mX12_rests) (P := pX12_rests_38) (cut := cutX12_rests) (cs := csX12_rests) dX12_rests_38 csX12_rests_ok hd 32 38 _ h
def pX12_rests_74 : List (Nat × Instr × Nat) := [(74, .iload 6, 2), (76, .aload_n 0, 1), (77, .getfield 255, 3), (80, .if_icmp .ge 24, 3), (83, .bipush 10, 2), (85, .iload 5, 2), (87, .imul, 1), (88, .aload_n 0, 1), (89, .getfield 75, 3), (92, .iload 6, 2), (94, .iaload, 1), (95, .iadd, 1), (96, .istore 5, 2), (98, .iinc 6 1, 3), (101, .goto (-27), 3), (104, .iload 5, 2), (106, .ireturn, 1)]
set_option maxRecDepth 100000 in
theorem dX12_rests_74 : mj_pd cX12_rests pX12_rests_74 := mj_pdB (by decide +kernel)
set_option maxRecDepth 100000 in
set_option maxHeartbeats 4000000 in
theorem bX12_rests_74 {Ω : mj_Om} {l : Launch} {d : Nat} {Φ : Option Value → mj_M → Prop} (hd : 3 ≤ d) (x1 : Int32) (x2 : Int32) (x3 : Int32) (x4 : Int32) (x5 : Int32) (x6 : Int32) (I : Nat → Nat → Int32) (J : Nat → Nat → Int64)
    (h : ((if x6 < (I 91 22) then (mj_gd (mj_inB x6 8) (mj_G Ω l false mX12_rests d 0 0 Φ 0 0 74 ([some (.ref 91), some (.int x1), some (.int x2), some (.int x3), some (.int x4), some (.int (((10 : Int32) * x5) + (I 112 (x6).toNatClampNeg))), some (.int (x6 + (1 : Int32)))], [], (mk I J)))) else (Φ (some (.int x5)) (mk I J))))) :
    mj_G Ω l false mX12_rests d 0 0 Φ 0 0 74 ([some (.ref 91), some (.int x1), some (.int x2), some (.int x3), some (.int x4), some (.int x5), some (.int x6)], [], mk I J) := mj_blk (μ := mX12_rests) (P := pX12_rests_74) (cut := cutX12_rests) (cs := csX12_rests) dX12_rests_74 csX12_rests_ok hd 18 74 _ h
def tX12_rests : mj_PT := fun as M Φ => match as with
  | [.ref this, .int i] => ((this = 91 ∧ mj_isk M) ∧ (∃ m : Nat, (∃ R : RF, ((qM M.2.2.1 m R) ∧ (∀ I1 : Nat → Nat → Int32, (fr Scr M.2.2.1 I1) → Φ (some (.int (restR (nM M.2.2.1) (lv7 (M.2.2.1 104)) i))) (M.1, M.2.1, I1, M.2.2.2))))))
  | _ => False
set_option maxHeartbeats 4000000 in
theorem mnX12_rests {Ω : mj_Om} {l : Launch} {d : Nat} {Φ : Option Value → mj_M → Prop} (hd : 3 ≤ d) (i : Int32) (m : Nat) (R : RF) (I : Nat → Nat → Int32) (J : Nat → Nat → Int64) (hp : qM I m R) (h : ∀ I1 : Nat → Nat → Int32, (fr Scr I I1) → Φ (some (.int (restR (nM I) (lv7 (I 104)) i))) (mk I1 J)) : mj_Met Ω l false mX12_rests d 0 0 [.ref 91, .int i] (mk I J) Φ := by
  refine inX12_rests hd i I J ?_
  obtain ⟨⟨hc, hn⟩, hR, hFF, h25, h26⟩ := id hp
  unfold restR at h
  rw [hc]
  by_cases q : nI (nM I) = 0
  · rw [if_pos q]
    rw [zero_n (by omega)] at q
    rw [cif_f (by omega)] at h
    exact h I fr_rf
  rw [if_neg q]
  rw [zero_n (by omega)] at q
  rw [cif_t (by omega)] at h
  by_cases q5 : 5 < nM I
  · rw [if_pos (show (5 : Int32) < nI (nM I) from nlt (a := 5) q5 (by omega))]
    rw [cif_t q5] at h
    exact h I fr_rf
  rw [if_neg (show ¬ (5 : Int32) < nI (nM I) from nnl (a := 5) (by omega) (by omega))]
  rw [cif_f q5] at h
  have e1 : lv7 (I 104) 1 = I 104 1 := lv7_at (by decide)
  have e2 : lv7 (I 104) 2 = I 104 2 := lv7_at (by decide)
  rw [e1, e2] at h
  have p3 := p243 (n := nM I) (by omega)
  by_cases z : i < -1
  · rw [if_pos z]
    rw [Int32.lt_iff_toInt_lt, show (-1 : Int32).toInt = -1 from rfl] at z
    rw [if_neg (fun w => by rw [w, show (-1 : Int32).toInt = -1 from rfl] at z; omega), fR_neg (by rw [Int32.lt_iff_toInt_lt, i_0]; omega) _ _ (by omega)] at h
    exact h I fr_rf
  rw [if_neg z]
  refine ⟨⟨by trivial, mj_isk_mk _ _⟩, ⟨hc, hn⟩, ?_⟩
  have digs : ∀ (r : Nat) (v : Int32) (B : Nat → Nat → Int32), B 91 22 = nI (nM I) → (∀ b, b < nM I → B 112 b = nI (dg (nM I) r b)) → Φ (some (.int (dgV (nM I) r))) (mk B J) → mj_G Ω l false mX12_rests d 0 0 Φ 0 0 74 ([some (.ref 91), some (.int i), some (.int (nI (3 ^ nM I))), some (.int v), some (.int (nI r)), some (.int 0), some (.int 0)], [], mk B J) := by
    intro r v B hB1 hB2 h
    refine lp_inv (σ := Unit) (n := nM I) (G := fun j _ => mj_G Ω l false mX12_rests d 0 0 Φ 0 0 74 ([some (.ref 91), some (.int i), some (.int (nI (3 ^ nM I))), some (.int v), some (.int (nI r)), some (.int (dgN (fun b => nI (dg (nM I) r b)) j)), some (.int (nI j))], [], mk B J)) (fun _ _ => True) (fun j _ hj _ hk => ?_) (fun _ _ => ?_) (nM I) 0 () (by omega) trivial
    · refine bX12_rests_74 hd i _ v (nI r) _ (nI j) B J ?_
      rw [hB1, if_pos (nlt hj (by omega))]
      simp (disch := omega) only [jn_in, jn_cl, gd_dec, jn_succ]
      rw [hB2 j hj, Int32.mul_comm]
      exact hk () trivial
    · refine bX12_rests_74 hd i _ v (nI r) _ (nI (nM I)) B J ?_
      rw [hB1, if_neg Int32.lt_irrefl]
      exact h
  have key : ∀ (k r : Nat) (A : Nat → Nat → Int32), r + k = 3 ^ nM I → fr (fun c _ => c = 112) I A → (∀ I1 : Nat → Nat → Int32, fr Scr I I1 → Φ (some (.int (if i = -1 then nI (rsN (nM I) (wo (I 104 2) (I 104 1)) (3 ^ nM I)) else fR (nM I) (wo (I 104 2) (I 104 1)) i k r))) (mk I1 J)) → mj_G Ω l false mX12_rests d 0 0 Φ 0 0 38 ([some (.ref 91), some (.int i), some (.int (nI (3 ^ nM I))), some (.int (nI (rsN (nM I) (wo (I 104 2) (I 104 1)) r))), some (.int (nI r)), none, none], [], mk A J) := by
    intro k
    induction k with
    | zero =>
      intro r A hr hA h
      refine bX12_rests_38 hd i _ _ (nI r) A J ?_
      rw [if_neg (nnl (by omega) (by omega))]
      have h := h A (fr_mo hA (fun c k w => by unfold Scr; omega))
      rw [show r = 3 ^ nM I by omega]
      by_cases y : i = -1
      · rw [if_pos y] at h ⊢; exact h
      · rw [if_neg y] at h ⊢; exact h
    | succ k ih =>
      intro r A hr hA h
      refine bX12_rests_38 hd i _ _ (nI r) A J ?_
      rw [if_pos (nlt (by omega) (by omega))]
      obtain ⟨oA, nA, tA⟩ := mM_fr hA (by (try dsimp only); omega) ⟨hc, hn⟩
      refine ⟨⟨by trivial, mj_isk_mk _ _⟩, r, rfl, ⟨oA, by omega⟩, fun B hB => ?_⟩
      obtain ⟨b1, b2⟩ := hB
      rw [nA] at b1
      obtain ⟨oB, nB, tB⟩ := mM_fr b2 (by (try dsimp only); omega) oA
      rw [nA] at nB tB
      have hfr := fr_tr hA b2
      refine ⟨⟨by trivial, mj_isk_mk _ _⟩, r, ⟨oB, by omega, by rw [nB]; exact b1⟩, ?_⟩
      rw [nB, hfr 104 2 (by (try dsimp only); omega), hfr 104 1 (by (try dsimp only); omega), jn_succ, jn_succ]
      unfold fR at h
      by_cases y : isRs (nM I) r (wo (I 104 2) (I 104 1))
      · rw [if_neg (by rw [b2i_e0]; exact fun w => w y)]
        have es : rsN (nM I) (wo (I 104 2) (I 104 1)) (r + 1) = rsN (nM I) (wo (I 104 2) (I 104 1)) r + 1 := cnt_y (p := fun q => isRs (nM I) q (wo (I 104 2) (I 104 1))) y
        have nl := rsN_le (nM I) (wo (I 104 2) (I 104 1)) r
        rw [cif_t y] at h
        by_cases x : nI (rsN (nM I) (wo (I 104 2) (I 104 1)) r) = i
        · rw [if_pos x]
          have ni : ¬ i = -1 := fun w => by
            have := congrArg Int32.toInt (x.trans w)
            rw [jn_toInt (by omega), show (-1 : Int32).toInt = -1 from rfl] at this
            omega
          rw [if_neg ni, cif_t x] at h
          exact digs r _ B tB b1 (h B (fr_mo hfr (fun c k w => by unfold Scr; omega)))
        · rw [if_neg x, ← es]
          rw [cif_f x] at h
          exact ih (r + 1) B (by omega) hfr h
      · rw [if_pos (by rw [b2i_e0]; exact y)]
        have es : rsN (nM I) (wo (I 104 2) (I 104 1)) (r + 1) = rsN (nM I) (wo (I 104 2) (I 104 1)) r := cnt_n (p := fun q => isRs (nM I) q (wo (I 104 2) (I 104 1))) y
        rw [cif_f y] at h
        rw [← es]
        exact ih (r + 1) B (by omega) hfr h
  exact key (3 ^ nM I) 0 I (by omega) fr_rf h
theorem sdX12_rests : mj_Sd mX12_rests 3 tX12_rests := by
  intro Ω l d hd as M Φ h
  unfold tX12_rests at h
  split at h
  · rename_i z_this i
    obtain ⟨⟨rfl, hM⟩, m, R, hp, h⟩ := h
    rw [mj_isk_of hM]
    exact mnX12_rests hd i m R _ _ hp (by
      rw [mj_isk_of hM] at h
      exact h)
  · exact h.elim
set_option maxHeartbeats 1000000 in
theorem two_rests {Ω : mj_Om} {l : Launch} {I : Nat → Nat → Int32} {J : Nat → Nat → Int64} (i : Int32) (h : Rel I) : Two Ω l mX11_rests mX12_rests [.int i] I J := by
  obtain ⟨m, K, k1, k2⟩ := id h.2.1
  have hq := Rel_c3 h k1 k2
  refine mnX11_rests (Nat.le_of_ble_eq_true rfl) i m (rfK m K) I J hq.1 (fun A hA => ⟨_, A, J, rfl, rfl, ?_⟩)
  obtain ⟨rA, hqM, n1, v1, l1, s1⟩ := Rel_c4 h k1 k2 hA
  refine mnX12_rests (Nat.le_of_ble_eq_true rfl) i m (rfK m K) A J hqM (fun B hB => ⟨B, J, ?_, rfl, Rel_q rA hB⟩)
  obtain ⟨w1, w2, w3, w4, w5⟩ := id h.2.2.1
  obtain ⟨y1, y2, y3, y4, y5⟩ := id rA.2.2.1
  by_cases q : 0 < nF A 39
  · obtain ⟨x1, -⟩ := y5 q
    rw [y3, x1, n1, l1]
  · unfold restR
    rw [cif_f (by omega), cif_f (by rw [← n1]; omega)]
