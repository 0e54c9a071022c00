/-! ===== spread on both sides (by program, wip/whole/p103.py) ===== -/
def cdN (n r t : Nat) : Nat → Nat
  | 0 => 0
  | b + 1 => cdN n r t b + (if dg n r b = t then 1 else 0)
theorem cdN_eq (n r t : Nat) : ∀ k, cnt (fun b => dg n r b = t) k = cdN n r t k
  | 0 => rfl
  | k + 1 => by
    unfold cdN
    by_cases q : dg n r k = t
    · rw [if_pos q, cnt_y (p := fun b => dg n r b = t) q, cdN_eq n r t k]
    · rw [if_neg q, cnt_n (p := fun b => dg n r b = t) q, cdN_eq n r t k]; rfl
def rsD (n r : Nat) (e a : Int32) : Bool := (List.range n).all (fun b => (List.range 3).all (fun t => decide (t = dg n r b) || decide (¬ wo e a (dg n r b) - 2 * (nI (cdN n r (dg n r b) n) - 1) < wo e a t - 2 * nI (cdN n r t n))))
theorem rsD_ok {n r : Nat} {e a : Int32} (h : rsD n r e a = true) : isRs n r (wo e a) := by
  intro b hb t ht q
  unfold rsD at h
  have h1 := List.all_eq_true.mp h b (List.mem_range.mpr hb)
  have h2 := List.all_eq_true.mp h1 t (List.mem_range.mpr ht)
  rw [Bool.or_eq_true, decide_eq_true_eq, decide_eq_true_eq] at h2
  rcases h2 with h2 | h2
  · exact absurd h2 q
  · unfold crd
    rw [cdN_eq, cdN_eq]
    exact h2
def witL : List Nat := [0, 0, 0, 0, 0, 0, 0, 0, 0, 0, 0, 2, 2, 2, 2, 2, 2, 2, 2, 2, 1, 0, 0, 0, 0, 0, 0, 0, 0, 0, 1, 8, 8, 8, 8, 8, 8, 8, 8, 8, 5, 1, 0, 0, 0, 0, 0, 0, 0, 0, 5, 17, 26, 26, 26, 26, 26, 26, 26, 26, 5, 1, 1, 0, 0, 0, 0, 0, 0, 0, 5, 53, 53, 80, 80, 80, 80, 80, 80, 80, 14, 4, 1, 0, 0, 0, 0, 0, 0, 0, 14, 53, 161, 161, 242, 242, 242, 242, 242, 242]
theorem wit_ok : ∀ n, n < 5 → ∀ e, e < 2 → ∀ a, a < 10 → witL.getD (20 * n + 10 * e + a) 0 < 3 ^ (n + 1) ∧ rsD (n + 1) (witL.getD (20 * n + 10 * e + a) 0) (nI e) (nI a) = true := by decide +kernel
theorem wo_e (e a : Int32) : wo e a = wo (nI (if e = 0 then 0 else 1)) a := by
  funext t
  unfold wo
  by_cases q : e = 0
  · rw [if_pos q, if_pos q, if_pos (show nI 0 = (0 : Int32) from rfl)]
  · rw [if_neg q, if_neg q, if_neg (show ¬ nI 1 = (0 : Int32) by decide)]
/-- there is always a row at rest -/
theorem rs_ex {n a : Nat} (e : Int32) (h1 : 1 ≤ n) (h5 : n ≤ 5) (ha : a < 10) : ∃ r, r < 3 ^ n ∧ isRs n r (wo e (nI a)) := by
  obtain ⟨k, rfl⟩ : ∃ k, n = k + 1 := ⟨n - 1, by omega⟩
  rw [wo_e]
  have := wit_ok k (by omega) (if e = 0 then 0 else 1) (by split <;> omega) a ha
  exact ⟨_, this.1, rsD_ok this.2⟩
theorem fs_ex {n : Nat} {W : Nat → Int32} : ∀ r, r < 3 ^ n → isRs n r W → ∃ q, fsR n W q := by
  intro r
  induction r using Nat.strongRecOn with
  | _ r ih =>
    intro h1 h2
    by_cases q : ∃ p, p < r ∧ isRs n p W
    · obtain ⟨p, hp, hq⟩ := q
      exact ih p hp (by omega) hq
    · exact ⟨r, h1, h2, fun p hp w => q ⟨p, hp, w⟩⟩
noncomputable def fsE (n : Nat) (e : Int32) (a : Nat) : Nat := Classical.epsilon (fun r => fsR n (wo e (nI a)) r)
theorem fsE_ok {n a : Nat} (e : Int32) (h1 : 1 ≤ n) (h5 : n ≤ 5) (ha : a < 10) : fsR n (wo e (nI a)) (fsE n e a) := by
  obtain ⟨r, r1, r2⟩ := rs_ex e h1 h5 ha
  exact Classical.epsilon_spec (fs_ex r r1 r2)
noncomputable def fuN (n : Nat) (e : Int32) (a : Nat) : Nat := max (max (crd n (fsE n e a) 0) (crd n (fsE n e a) 1)) (crd n (fsE n e a) 2)
theorem fuN_le (n : Nat) (e : Int32) (a : Nat) : fuN n e a ≤ n := by
  have := crd_le n (fsE n e a) 0
  have := crd_le n (fsE n e a) 1
  have := crd_le n (fsE n e a) 2
  unfold fuN
  omega
noncomputable def spN (n : Nat) (e : Int32) : Nat → Nat × Nat
  | 0 => (9, 0)
  | k + 1 => if fuN n e k < (spN n e k).1 then (fuN n e k, k) else spN n e k
theorem spN_le (n : Nat) (e : Int32) : ∀ k, (spN n e k).1 ≤ 9 ∧ (spN n e k).2 ≤ k
  | 0 => ⟨Nat.le_refl 9, Nat.le_refl 0⟩
  | k + 1 => by
    have := spN_le n e k
    unfold spN
    split
    · exact ⟨by dsimp only; omega, by dsimp only; omega⟩
    · exact ⟨by omega, by omega⟩
noncomputable def spR (n : Nat) (C : Nat → Int32) (x : Int32) : Int32 := cif (0 < n ∧ (x = 0 ∨ x = 1)) (cif (5 < n) (-1000000) (if x = 0 then nI (spN n (C 2) 10).2 else nI (spN n (C 2) 10).1)) (-1)
noncomputable def mxT (n r : Nat) : Nat → Nat
  | 0 => 0
  | t + 1 => max (mxT n r t) (crd n r t)
theorem mxT_le (n r : Nat) : ∀ t, mxT n r t ≤ n
  | 0 => Nat.zero_le n
  | t + 1 => by have := mxT_le n r t; have := crd_le n r t; unfold mxT; omega
theorem mxT_3 (n r : Nat) : mxT n r 3 = max (max (crd n r 0) (crd n r 1)) (crd n r 2) := by unfold mxT mxT mxT mxT; omega
def csX12_fullest : List (Nat × Nat × Nat × mj_PT) := [(295, 1, 2, mj_ptmx), (407, 0, 1, mj_rcv 12 tX12_rows), (410, 0, 2, mj_rcv 12 tX12_layThirds), (413, 0, 2, mj_rcv 12 tX12_isRest)]
theorem csX12_fullest_ok : mj_Cs mX12_fullest 3 csX12_fullest := (mj_Csmx (Nat.le_of_ble_eq_true rfl) l12_295 (mj_CsV (D' := 1) (ci := 12) (q := (RX12, TX12, 45)) sdX12_rows (Nat.le_of_ble_eq_true rfl) fX12_rows rfl rfl iX12_rows vX12_rows (by decide +kernel) l12_407 (mj_CsV (D' := 1) (ci := 12) (q := (RX12, TX12, 45)) sdX12_layThirds (Nat.le_of_ble_eq_true rfl) fX12_layThirds rfl rfl iX12_layThirds vX12_layThirds (by decide +kernel) l12_410 (mj_CsV (D' := 2) (ci := 12) (q := (RX12, TX12, 45)) sdX12_isRest (Nat.le_of_ble_eq_true rfl) fX12_isRest rfl rfl iX12_isRest vX12_isRest (by decide +kernel) l12_413 mj_Cs0))))
def cutX12_fullest : List (Nat × List Bool) := [(7, [true, true, true, true, false, false, false, false]), (31, [true, true, true, true, true, true, false, false]), (43, [true, true, true, true, true, true, true, true])]
set_option maxRecDepth 100000 in
set_option maxHeartbeats 4000000 in
theorem inX12_fullest {Ω : mj_Om} {l : Launch} {d : Nat} {Φ : Option Value → mj_M → Prop} (hd : 3 ≤ d) (a : Int32) (I : Nat → Nat → Int32) (J : Nat → Nat → Int64)
    (h : (((91 = 91 ∧ mj_isk (mk I J)) ∧ ((okM I) ∧ (mj_G Ω l false mX12_fullest d 0 0 Φ 0 0 7 ([some (.ref 91), some (.int a), some (.int (nI (3 ^ nM I))), some (.int (0 : Int32)), none, none, none, none], [], (mk I J))))))) :
    mj_Met Ω l false mX12_fullest d 0 0 [.ref 91, .int a] (mk I J) Φ := mj_entry (by decide) rfl (fun h => (by cases h)) (Nat.le_of_ble_eq_true rfl) (mj_blk (μ := mX12_fullest) (P := pX12_fullest) (cut := cutX12_fullest) (cs := csX12_fullest) dX12_fullest csX12_fullest_ok hd 57 0 _ h)
set_option maxRecDepth 100000 in
set_option maxHeartbeats 4000000 in
theorem bX12_fullest_7 {Ω : mj_Om} {l : Launch} {d : Nat} {Φ : Option Value → mj_M → Prop} (hd : 3 ≤ d) (x1 : Int32) (x2 : Int32) (x3 : Int32) (I : Nat → Nat → Int32) (J : Nat → Nat → Int64)
    (h : ((if x3 < x2 then ((91 = 91 ∧ mj_isk (mk I J)) ∧ (∃ k3483 : Nat, x3 = nI k3483 ∧ ((okM I ∧ k3483 < 2147483648) ∧ (∀ I3484 : Nat → Nat → Int32, ((∀ b, b < nM I → I3484 112 b = nI (dg (nM I) k3483 b)) ∧ fr (fun c _ => c = 112) I I3484) → ((91 = 91 ∧ mj_isk (mk I3484 J)) ∧ (∃ r3486 : Nat, ((okM I3484 ∧ nM I3484 ≤ 5 ∧ (∀ b, b < nM I3484 → I3484 112 b = nI (dg (nM I3484) r3486 b))) ∧ (if (b2i (isRs (nM I3484) r3486 (wo (I3484 104 2) x1))) = (0 : Int32) then (mj_G Ω l false mX12_fullest d 0 0 Φ 0 0 7 ([some (.ref 91), some (.int x1), some (.int x2), some (.int (x3 + (1 : Int32))), none, none, none, none], [], (mk I3484 J))) else (mj_G Ω l false mX12_fullest d 0 0 Φ 0 0 31 ([some (.ref 91), some (.int x1), some (.int x2), some (.int x3), some (.int (0 : Int32)), some (.int (0 : Int32)), none, none], [], (mk I3484 J))))))))))) else (Φ (some (.int (-1 : Int32))) (mk I J))))) :
    mj_G Ω l false mX12_fullest d 0 0 Φ 0 0 7 ([some (.ref 91), some (.int x1), some (.int x2), some (.int x3), none, none, none, none], [], mk I J) := mj_blk (μ := mX12_fullest) (P := pX12_fullest) (cut := cutX12_fullest) (cs := csX12_fullest) dX12_fullest csX12_fullest_ok hd 57 7 _ h
set_option maxRecDepth 100000 in
set_option maxHeartbeats 4000000 in
theorem bX12_fullest_31 {Ω : mj_Om} {l : Launch} {d : Nat} {Φ : Option Value → mj_M → Prop} (hd : 3 ≤ d) (x1 : Int32) (x2 : Int32) (x3 : Int32) (x4 : Int32) (x5 : Int32) (I : Nat → Nat → Int32) (J : Nat → Nat → Int64)
    (h : ((if x5 < (3 : Int32) then (mj_G Ω l false mX12_fullest d 0 0 Φ 0 0 43 ([some (.ref 91), some (.int x1), some (.int x2), some (.int x3), some (.int x4), some (.int x5), some (.int (0 : Int32)), some (.int (0 : Int32))], [], (mk I J))) else (Φ (some (.int x4)) (mk I J))))) :
    mj_G Ω l false mX12_fullest d 0 0 Φ 0 0 31 ([some (.ref 91), some (.int x1), some (.int x2), some (.int x3), some (.int x4), some (.int x5), none, none], [], mk I J) := mj_blk (μ := mX12_fullest) (P := pX12_fullest) (cut := cutX12_fullest) (cs := csX12_fullest) dX12_fullest csX12_fullest_ok hd 57 31 _ h
set_option maxRecDepth 100000 in
set_option maxHeartbeats 4000000 in
theorem bX12_fullest_43 {Ω : mj_Om} {l : Launch} {d : Nat} {Φ : Option Value → mj_M → Prop} (hd : 3 ≤ d) (x1 : Int32) (x2 : Int32) (x3 : Int32) (x4 : Int32) (x5 : Int32) (x6 : Int32) (x7 : Int32) (I : Nat → Nat → Int32) (J : Nat → Nat → Int64)
    (h : ((if x7 < (I 91 22) then (mj_gd (mj_inB x7 8) (if (I 112 (x7).toNatClampNeg) = x5 then (mj_G Ω l false mX12_fullest d 0 0 Φ 0 0 43 ([some (.ref 91), some (.int x1), some (.int x2), some (.int x3), some (.int x4), some (.int x5), some (.int (x6 + (1 : Int32))), some (.int (x7 + (1 : Int32)))], [], (mk I J))) else (mj_G Ω l false mX12_fullest d 0 0 Φ 0 0 43 ([some (.ref 91), some (.int x1), some (.int x2), some (.int x3), some (.int x4), some (.int x5), some (.int (x6 + (0 : Int32))), some (.int (x7 + (1 : Int32)))], [], (mk I J))))) else (mj_G Ω l false mX12_fullest d 0 0 Φ 0 0 31 ([some (.ref 91), some (.int x1), some (.int x2), some (.int x3), some (.int (if x4 < x6 then x6 else x4)), some (.int (x5 + (1 : Int32))), none, none], [], (mk I J)))))) :
    mj_G Ω l false mX12_fullest d 0 0 Φ 0 0 43 ([some (.ref 91), some (.int x1), some (.int x2), some (.int x3), some (.int x4), some (.int x5), some (.int x6), some (.int x7)], [], mk I J) := mj_blk (μ := mX12_fullest) (P := pX12_fullest) (cut := cutX12_fullest) (cs := csX12_fullest) dX12_fullest csX12_fullest_ok hd 57 43 _ h
def tX12_fullest : mj_PT := fun as M Φ => match as with
  | [.ref this, .int a] => ((this = 91 ∧ mj_isk M) ∧ (∃ r : Nat, ((okM M.2.2.1 ∧ nM M.2.2.1 ≤ 5 ∧ fsR (nM M.2.2.1) (wo (M.2.2.1 104 2) a) r) ∧ (∀ I1 : Nat → Nat → Int32, (fr (fun c _ => c = 112) M.2.2.1 I1) → Φ (some (.int (fuR (nM M.2.2.1) r))) (M.1, M.2.1, I1, M.2.2.2)))))
  | _ => False
set_option maxHeartbeats 4000000 in
theorem mnX12_fullest {Ω : mj_Om} {l : Launch} {d : Nat} {Φ : Option Value → mj_M → Prop} (hd : 3 ≤ d) (a : Int32) (r : Nat) (I : Nat → Nat → Int32) (J : Nat → Nat → Int64) (hp : okM I ∧ nM I ≤ 5 ∧ fsR (nM I) (wo (I 104 2) a) r) (h : ∀ I1 : Nat → Nat → Int32, (fr (fun c _ => c = 112) I I1) → Φ (some (.int (fuR (nM I) r))) (mk I1 J)) : mj_Met Ω l false mX12_fullest d 0 0 [.ref 91, .int a] (mk I J) Φ := by
  refine inX12_fullest hd a I J ?_
  obtain ⟨⟨hc, hn⟩, hn5, hr⟩ := hp
  have p3 := p243 hn5
  refine ⟨⟨by trivial, mj_isk_mk _ _⟩, ⟨hc, hn⟩, ?_⟩
  have top : ∀ (B : Nat → Nat → Int32), B 91 22 = nI (nM I) → (∀ b, b < nM I → B 112 b = nI (dg (nM I) r b)) → Φ (some (.int (fuR (nM I) r))) (mk B J) → mj_G Ω l false mX12_fullest d 0 0 Φ 0 0 31 ([some (.ref 91), some (.int a), some (.int (nI (3 ^ nM I))), some (.int (nI r)), some (.int 0), some (.int 0), none, none], [], mk B J) := by
    intro B hB1 hB2 h
    refine lp_inv (σ := Unit) (n := 3) (G := fun t _ => mj_G Ω l false mX12_fullest d 0 0 Φ 0 0 31 ([some (.ref 91), some (.int a), some (.int (nI (3 ^ nM I))), some (.int (nI r)), some (.int (nI (mxT (nM I) r t))), some (.int (nI t)), none, none], [], mk B J)) (fun _ _ => True) (fun t _ ht _ hk => ?_) (fun _ _ => ?_) 3 0 () (by omega) trivial
    · refine bX12_fullest_31 hd a _ (nI r) _ (nI t) B J ?_
      rw [if_pos (show nI t < (3 : Int32) from nlt (b := 3) ht (by omega))]
      refine lp_inv (σ := Unit) (n := nM I) (G := fun j _ => mj_G Ω l false mX12_fullest d 0 0 Φ 0 0 43 ([some (.ref 91), some (.int a), some (.int (nI (3 ^ nM I))), some (.int (nI r)), some (.int (nI (mxT (nM I) r t))), some (.int (nI t)), some (.int (nI (cnt (fun b => dg (nM I) r b = t) j))), some (.int (nI j))], [], mk B J)) (fun _ _ => True) (fun j _ hj _ hkk => ?_) (fun _ _ => ?_) (nM I) 0 () (by omega) trivial
      · refine bX12_fullest_43 hd a _ (nI r) _ (nI t) _ (nI j) B J ?_
        rw [hB1, if_pos (nlt hj (by omega))]
        simp (disch := omega) only [jn_in, jn_cl, gd_dec, jn_succ]
        have db := dg_b (n := nM I) (k := r) (b := j)
        rw [hB2 j hj, Int32.add_zero]
        by_cases y : dg (nM I) r j = t
        · rw [if_pos (by rw [y])]
          have := hkk () trivial
          rw [cnt_y (p := fun b => dg (nM I) r b = t) y] at this
          exact this
        · rw [if_neg (by rw [jn_eq (by omega) (by omega)]; exact y)]
          have := hkk () trivial
          rw [cnt_n (p := fun b => dg (nM I) r b = t) y] at this
          exact this
      · refine bX12_fullest_43 hd a _ (nI r) _ (nI t) _ (nI (nM I)) B J ?_
        rw [hB1, if_neg Int32.lt_irrefl, jn_succ]
        have := hk () trivial
        have m1 := mxT_le (nM I) r t
        have m2 := crd_le (nM I) r t
        have e : (if nI (mxT (nM I) r t) < nI (cnt (fun b => dg (nM I) r b = t) (nM I)) then nI (cnt (fun b => dg (nM I) r b = t) (nM I)) else nI (mxT (nM I) r t)) = nI (mxT (nM I) r (t + 1)) := by
          change (if nI (mxT (nM I) r t) < nI (crd (nM I) r t) then nI (crd (nM I) r t) else nI (mxT (nM I) r t)) = nI (max (mxT (nM I) r t) (crd (nM I) r t))
          by_cases y : mxT (nM I) r t < crd (nM I) r t
          · rw [if_pos (nlt y (by omega)), Nat.max_eq_right (by omega)]
          · rw [if_neg (nnl (by omega) (by omega)), Nat.max_eq_left (by omega)]
        rw [e]
        exact this
    · refine bX12_fullest_31 hd a _ (nI r) _ (nI 3) B J ?_
      rw [if_neg (show ¬ nI 3 < (3 : Int32) from nnl (b := 3) (by omega) (by omega)), mxT_3]
      exact h
  have key : ∀ (k q : Nat) (A : Nat → Nat → Int32), q + k = r → fr (fun c _ => c = 112) I A → mj_G Ω l false mX12_fullest d 0 0 Φ 0 0 7 ([some (.ref 91), some (.int a), some (.int (nI (3 ^ nM I))), some (.int (nI q)), none, none, none, none], [], mk A J) := by
    intro k
    induction k with
    | zero =>
      intro q A hq hA
      obtain rfl : q = r := by omega
      refine bX12_fullest_7 hd a _ (nI q) A J ?_
      rw [if_pos (nlt hr.1 (by omega))]
      obtain ⟨oA, nA, tA⟩ := mM_fr hA (by (try dsimp only); omega) ⟨hc, hn⟩
      refine ⟨⟨by trivial, mj_isk_mk _ _⟩, q, rfl, ⟨oA, by have := hr.1; omega⟩, fun B hB => ?_⟩
      obtain ⟨b1, b2⟩ := hB
      rw [nA] at b1
      obtain ⟨oB, nB, tB⟩ := mM_fr b2 (by (try dsimp only); omega) oA
      rw [nA] at nB tB
      have hfr := fr_tr hA b2
      refine ⟨⟨by trivial, mj_isk_mk _ _⟩, q, ⟨oB, by omega, by rw [nB]; exact b1⟩, ?_⟩
      rw [nB, hfr 104 2 (by (try dsimp only); omega), if_neg (by rw [b2i_e0]; exact fun w => w hr.2.1)]
      exact top B tB b1 (h B hfr)
    | succ k ih =>
      intro q A hq hA
      have hr1 := hr.1
      refine bX12_fullest_7 hd a _ (nI q) A J ?_
      rw [if_pos (nlt (show q < 3 ^ nM I by omega) (by omega))]
      obtain ⟨oA, nA, tA⟩ := mM_fr hA (by (try dsimp only); omega) ⟨hc, hn⟩
      refine ⟨⟨by trivial, mj_isk_mk _ _⟩, q, rfl, ⟨oA, by omega⟩, fun B hB => ?_⟩
      obtain ⟨b1, b2⟩ := hB
      rw [nA] at b1
      obtain ⟨oB, nB, tB⟩ := mM_fr b2 (by (try dsimp only); omega) oA
      rw [nA] at nB tB
      have hfr := fr_tr hA b2
      refine ⟨⟨by trivial, mj_isk_mk _ _⟩, q, ⟨oB, by omega, by rw [nB]; exact b1⟩, ?_⟩
      rw [nB, hfr 104 2 (by (try dsimp only); omega), if_pos (by rw [b2i_e0]; exact hr.2.2 q (by omega)), jn_succ]
      exact ih (q + 1) B (by omega) hfr
  exact key r 0 I (by omega) fr_rf
theorem sdX12_fullest : mj_Sd mX12_fullest 3 tX12_fullest := by
  intro Ω l d hd as M Φ h
  unfold tX12_fullest at h
  split at h
  · rename_i z_this a
    obtain ⟨⟨rfl, hM⟩, r, hp, h⟩ := h
    rw [mj_isk_of hM]
    exact mnX12_fullest hd a r _ _ hp (by
      rw [mj_isk_of hM] at h
      exact h)
  · exact h.elim
def csX11_spread : List (Nat × Nat × Nat × mj_PT) := [(204, 0, 1, mj_rcv 11 tX11_hasWater), (254, 1, 1, tX11_isChoice), (287, 0, 4, mj_rcv 9 tX9_set), (297, 0, 1, mj_rcv 9 tX9_fullestOfFirstRest)]
theorem csX11_spread_ok : mj_Cs mX11_spread 5 csX11_spread := (mj_CsV (D' := 1) (ci := 11) (q := (RX11, TX11, 18)) sdX11_hasWater (Nat.le_of_ble_eq_true rfl) fX11_hasWater rfl rfl iX11_hasWater vX11_hasWater (by decide +kernel) l11_204 (mj_CsS (D' := 1) sdX11_isChoice (Nat.le_of_ble_eq_true rfl) fX11_isChoice sX11_isChoice (by decide +kernel) l11_254 (mj_CsV (D' := 1) (ci := 9) (q := (RX9, TX9, 5)) sdX9_set (Nat.le_of_ble_eq_true rfl) fX9_set rfl rfl iX9_set vX9_set (by decide +kernel) l11_287 (mj_CsV (D' := 4) (ci := 9) (q := (RX9, TX9, 5)) sdX9_fullestOfFirstRest (Nat.le_of_ble_eq_true rfl) fX9_fullestOfFirstRest rfl rfl iX9_fullestOfFirstRest vX9_fullestOfFirstRest (by decide +kernel) l11_297 mj_Cs0))))
def cutX11_spread : List (Nat × List Bool) := [(38, [true, true, true, true, true, false])]
set_option maxRecDepth 100000 in
set_option maxHeartbeats 4000000 in
theorem inX11_spread {Ω : mj_Om} {l : Launch} {d : Nat} {Φ : Option Value → mj_M → Prop} (hd : 5 ≤ d) (x : Int32) (I : Nat → Nat → Int32) (J : Nat → Nat → Int64)
    (h : ((if (0 : Int32) < (I 39 8) then (if x = (0 : Int32) then (if (5 : Int32) < (I 39 8) then (Φ (some (.int (-1000000 : Int32))) (mk I J)) else (mj_G Ω l false mX11_spread d 0 0 Φ 0 0 38 ([some (.ref 0), some (.int x), some (.int (9 : Int32)), some (.int (0 : Int32)), some (.int (0 : Int32)), none], [], (mk I J)))) else (if x = (1 : Int32) then (if (5 : Int32) < (I 39 8) then (Φ (some (.int (-1000000 : Int32))) (mk I J)) else (mj_G Ω l false mX11_spread d 0 0 Φ 0 0 38 ([some (.ref 0), some (.int x), some (.int (9 : Int32)), some (.int (0 : Int32)), some (.int (0 : Int32)), none], [], (mk I J)))) else (Φ (some (.int (-1 : Int32))) (mk I J)))) else (Φ (some (.int (-1 : Int32))) (mk I J))))) :
    mj_Met Ω l false mX11_spread d 0 0 [.ref 0, .int x] (mk I J) Φ := mj_entry (by decide) rfl (fun h => (by cases h)) (Nat.le_of_ble_eq_true rfl) (mj_blk (μ := mX11_spread) (P := pX11_spread) (cut := cutX11_spread) (cs := csX11_spread) dX11_spread csX11_spread_ok hd 56 0 _ h)
set_option maxRecDepth 100000 in
set_option maxHeartbeats 4000000 in
theorem bX11_spread_38 {Ω : mj_Om} {l : Launch} {d : Nat} {Φ : Option Value → mj_M → Prop} (hd : 5 ≤ d) (x1 : Int32) (x2 : Int32) (x3 : Int32) (x4 : Int32) (I : Nat → Nat → Int32) (J : Nat → Nat → Int64)
    (h : ((if (9 : Int32) < x4 then (if x1 = (0 : Int32) then (Φ (some (.int x3)) (mk I J)) else (Φ (some (.int x2)) (mk I J))) else ((82 = 82 ∧ mj_isk (mk I J)) ∧ (∃ n3496 : Nat, (I 39 8) = nI n3496 ∧ ((n3496 ≤ 5) ∧ (∀ I3497 : Nat → Nat → Int32, (I3497 82 3 = nI n3496 ∧ I3497 82 4 = nI (3 ^ n3496) ∧ (∀ t, t < 3 → I3497 85 t = wo (I 27 2) x4 t) ∧ fr (fun c k => c = 85 ∨ (c = 82 ∧ (k = 3 ∨ k = 4))) I I3497) → ((82 = 82 ∧ mj_isk (mk I3497 J)) ∧ (∃ n3499 : Nat, (∃ r3500 : Nat, ((n3499 ≤ 5 ∧ I3497 82 3 = nI n3499 ∧ I3497 82 4 = nI (3 ^ n3499) ∧ fsR n3499 (fun t => I3497 85 t) r3500) ∧ (∀ I3501 : Nat → Nat → Int32, (fr (fun c _ => c = 83 ∨ c = 84) I3497 I3501) → (if (fuR n3499 r3500) < x2 then (mj_G Ω l false mX11_spread d 0 0 Φ 0 0 38 ([some (.ref 0), some (.int x1), some (.int (fuR n3499 r3500)), some (.int x4), some (.int (x4 + (1 : Int32))), none], [], (mk I3501 J))) else (mj_G Ω l false mX11_spread d 0 0 Φ 0 0 38 ([some (.ref 0), some (.int x1), some (.int x2), some (.int x3), some (.int (x4 + (1 : Int32))), none], [], (mk I3501 J)))))))))))))))) :
    mj_G Ω l false mX11_spread d 0 0 Φ 0 0 38 ([some (.ref 0), some (.int x1), some (.int x2), some (.int x3), some (.int x4), none], [], mk I J) := mj_blk (μ := mX11_spread) (P := pX11_spread) (cut := cutX11_spread) (cs := csX11_spread) dX11_spread csX11_spread_ok hd 56 38 _ h
def tX11_spread : mj_PT := fun as M Φ => match as with
  | [.ref this, .int x] => ((this = 0 ∧ mj_isk M) ∧ (∃ m : Nat, (∃ R : RF, ((qC M.2.2.1 m R) ∧ (∀ I1 : Nat → Nat → Int32, (fr Scr M.2.2.1 I1) → Φ (some (.int (spR (nF M.2.2.1 39) (lv7 (M.2.2.1 27)) x))) (M.1, M.2.1, I1, M.2.2.2))))))
  | _ => False
set_option maxHeartbeats 4000000 in
theorem mnX11_spread {Ω : mj_Om} {l : Launch} {d : Nat} {Φ : Option Value → mj_M → Prop} (hd : 5 ≤ d) (x : Int32) (m : Nat) (R : RF) (I : Nat → Nat → Int32) (J : Nat → Nat → Int64) (hp : qC I m R) (h : ∀ I1 : Nat → Nat → Int32, (fr Scr I I1) → Φ (some (.int (spR (nF I 39) (lv7 (I 27)) x))) (mk I1 J)) : mj_Met Ω l false mX11_spread d 0 0 [.ref 0, .int x] (mk I J) Φ := by
  refine inX11_spread hd x I J ?_
  obtain ⟨⟨hc, hn⟩, hR, hFF⟩ := id hp
  have e2 : lv7 (I 27) 2 = I 27 2 := lv7_at (by decide)
  unfold spR at h
  rw [e2] at h
  rw [hc]
  by_cases q : (0 : Int32) < nI (nF I 39)
  case neg =>
    rw [if_neg q]
    rw [pos_n hn] at q
    rw [cif_f (fun w => q w.1)] at h
    exact h I fr_rf
  rw [if_pos q]
  rw [pos_n hn] at q
  have key : (x = 0 ∨ x = 1) → (if (5 : Int32) < nI (nF I 39) then Φ (some (.int (-1000000))) (mk I J) else mj_G Ω l false mX11_spread d 0 0 Φ 0 0 38 ([some (.ref 0), some (.int x), some (.int 9), some (.int 0), some (.int 0), none], [], mk I J)) := fun hx => by
    rw [cif_t ⟨q, hx⟩] at h
    by_cases q5 : 5 < nF I 39
    · rw [if_pos (show (5 : Int32) < nI (nF I 39) from nlt (a := 5) q5 (by omega))]
      rw [cif_t q5] at h
      exact h I fr_rf
    rw [if_neg (show ¬ (5 : Int32) < nI (nF I 39) from nnl (a := 5) (by omega) (by omega))]
    rw [cif_f q5] at h
    refine lp_inv (σ := Nat → Nat → Int32) (n := 10) (G := fun k A => mj_G Ω l false mX11_spread d 0 0 Φ 0 0 38 ([some (.ref 0), some (.int x), some (.int (nI (spN (nF I 39) (I 27 2) k).1)), some (.int (nI (spN (nF I 39) (I 27 2) k).2)), some (.int (nI k)), none], [], mk A J)) (fun k A => fr (fun c _ => 82 ≤ c ∧ c ≤ 85) I A) (fun k A hk hA hkk => ?_) (fun A hA => ?_) 10 0 I (by omega) fr_rf
    · refine bX11_spread_38 hd x _ _ (nI k) A J ?_
      rw [if_neg (show ¬ (9 : Int32) < nI k from nnl (a := 9) (by omega) (by omega))]
      refine ⟨⟨by trivial, mj_isk_mk _ _⟩, nF I 39, by rw [hA 39 8 (by (try dsimp only); omega)]; exact hc, by omega, fun B hB => ?_⟩
      obtain ⟨b1, b2, b3, b4⟩ := hB
      rw [hA 27 2 (by (try dsimp only); omega)] at b3
      have fs := fsE_ok (n := nF I 39) (a := k) (I 27 2) (by omega) (by omega) hk
      have fs' : fsR (nF I 39) (fun t => B 85 t) (fsE (nF I 39) (I 27 2) k) := by
        obtain ⟨u1, u2, u3⟩ := fs
        exact ⟨u1, by rw [isRs_c b3]; exact u2, fun q hq => by rw [isRs_c b3]; exact u3 q hq⟩
      refine ⟨⟨by trivial, mj_isk_mk _ _⟩, nF I 39, fsE (nF I 39) (I 27 2) k, ⟨by omega, b1, b2, fs'⟩, fun D hD => ?_⟩
      have hfr : fr (fun c _ => 82 ≤ c ∧ c ≤ 85) I D := fun c k w => by rw [hD c k (by (try dsimp only at w ⊢); omega), b4 c k (by (try dsimp only at w ⊢); omega)]; exact hA c k w
      have := hkk D hfr
      rw [jn_succ]
      have ef : fuR (nF I 39) (fsE (nF I 39) (I 27 2) k) = nI (fuN (nF I 39) (I 27 2) k) := rfl
      rw [ef]
      have l1 := fuN_le (nF I 39) (I 27 2) k
      have l2 := spN_le (nF I 39) (I 27 2) k
      unfold spN at this
      by_cases y : fuN (nF I 39) (I 27 2) k < (spN (nF I 39) (I 27 2) k).1
      · rw [if_pos y] at this
        rw [if_pos (nlt y (by omega))]
        exact this
      · rw [if_neg y] at this
        rw [if_neg (nnl (by omega) (by omega))]
        exact this
    · refine bX11_spread_38 hd x _ _ (nI 10) A J ?_
      rw [if_pos (show (9 : Int32) < nI 10 from nlt (a := 9) (by omega) (by omega))]
      have h := h A (fr_mo hA (fun c k w => by unfold Scr; omega))
      by_cases y : x = 0
      · rw [if_pos y] at h ⊢; exact h
      · rw [if_neg y] at h ⊢; exact h
  by_cases x0 : x = 0
  · rw [if_pos x0]; exact key (Or.inl x0)
  rw [if_neg x0]
  by_cases x1 : x = 1
  · rw [if_pos x1]; exact key (Or.inr x1)
  rw [if_neg x1]
  rw [cif_f (fun w => w.2.elim x0 x1)] at h
  exact h I fr_rf
theorem sdX11_spread : mj_Sd mX11_spread 5 tX11_spread := by
  intro Ω l d hd as M Φ h
  unfold tX11_spread at h
  split at h
  · rename_i z_this x
    obtain ⟨⟨rfl, hM⟩, m, R, hp, h⟩ := h
    rw [mj_isk_of hM]
    exact mnX11_spread hd x m R _ _ hp (by
      rw [mj_isk_of hM] at h
      exact h)
  · exact h.elim
noncomputable def spM (n : Nat) (e : Int32) : Nat → Int32 × Int32
  | 0 => (-1, 0)
  | k + 1 => (nI (spN n e (k + 1)).2, nI (spN n e (k + 1)).1)
theorem spM_st {n : Nat} {e : Int32} {k : Nat} (hn : n ≤ 5) (hk : k < 10) : spM n e (k + 1) = if (spM n e k).1 = -1 then (nI k, nI (fuN n e k)) else if nI (fuN n e k) < (spM n e k).2 then (nI k, nI (fuN n e k)) else spM n e k := by
  have l1 := fuN_le n e k
  cases k with
  | zero =>
    rw [if_pos (show (spM n e 0).1 = -1 from rfl)]
    have e1 : spN n e (0 + 1) = (fuN n e 0, 0) := if_pos (show fuN n e 0 < 9 by omega)
    show (nI (spN n e (0 + 1)).2, nI (spN n e (0 + 1)).1) = _
    rw [e1]
  | succ k =>
    have l2 := spN_le n e (k + 1)
    have n1 : ¬ (spM n e (k + 1)).1 = -1 := nI_m1 (by omega)
    rw [if_neg n1]
    show (nI (spN n e (k + 1 + 1)).2, nI (spN n e (k + 1 + 1)).1) = if nI (fuN n e (k + 1)) < nI (spN n e (k + 1)).1 then (nI (k + 1), nI (fuN n e (k + 1))) else (nI (spN n e (k + 1)).2, nI (spN n e (k + 1)).1)
    by_cases y : fuN n e (k + 1) < (spN n e (k + 1)).1
    · rw [if_pos (nlt y (by omega))]
      rw [show spN n e (k + 1 + 1) = if fuN n e (k + 1) < (spN n e (k + 1)).1 then (fuN n e (k + 1), k + 1) else spN n e (k + 1) from rfl, if_pos y]
    · rw [if_neg (nnl (by omega) (by omega))]
      rw [show spN n e (k + 1 + 1) = if fuN n e (k + 1) < (spN n e (k + 1)).1 then (fuN n e (k + 1), k + 1) else spN n e (k + 1) from rfl, if_neg y]
def csX12_spread : List (Nat × Nat × Nat × mj_PT) := [(214, 1, 3, tX12_in), (416, 0, 2, mj_rcv 12 tX12_fullest)]
theorem csX12_spread_ok : mj_Cs mX12_spread 4 csX12_spread := (mj_CsS (D' := 1) sdX12_in (Nat.le_of_ble_eq_true rfl) fX12_in sX12_in (by decide +kernel) l12_214 (mj_CsV (D' := 3) (ci := 12) (q := (RX12, TX12, 45)) sdX12_fullest (Nat.le_of_ble_eq_true rfl) fX12_fullest rfl rfl iX12_fullest vX12_fullest (by decide +kernel) l12_416 mj_Cs0))
def cutX12_spread : List (Nat × List Bool) := [(37, [true, true, true, true, true, false])]
set_option maxRecDepth 100000 in
set_option maxHeartbeats 4000000 in
theorem inX12_spread {Ω : mj_Om} {l : Launch} {d : Nat} {Φ : Option Value → mj_M → Prop} (hd : 4 ≤ d) (x : Int32) (I : Nat → Nat → Int32) (J : Nat → Nat → Int64)
    (h : ((if (I 91 22) = (0 : Int32) then (Φ (some (.int (-1 : Int32))) (mk I J)) else (if x < (0 : Int32) then (Φ (some (.int (-1 : Int32))) (mk I J)) else (if (1 : Int32) < x then (Φ (some (.int (-1 : Int32))) (mk I J)) else (if (5 : Int32) < (I 91 22) then (Φ (some (.int (-1000000 : Int32))) (mk I J)) else (mj_G Ω l false mX12_spread d 0 0 Φ 0 0 37 ([some (.ref 91), some (.int x), some (.int (-1 : Int32)), some (.int (0 : Int32)), some (.int (0 : Int32)), none], [], (mk I J))))))))) :
    mj_Met Ω l false mX12_spread d 0 0 [.ref 91, .int x] (mk I J) Φ := mj_entry (by decide) rfl (fun h => (by cases h)) (Nat.le_of_ble_eq_true rfl) (mj_blk (μ := mX12_spread) (P := pX12_spread) (cut := cutX12_spread) (cs := csX12_spread) dX12_spread csX12_spread_ok hd 56 0 _ h)
set_option maxRecDepth 100000 in
set_option maxHeartbeats 4000000 in
theorem bX12_spread_37 {Ω : mj_Om} {l : Launch} {d : Nat} {Φ : Option Value → mj_M → Prop} (hd : 4 ≤ d) (x1 : Int32) (x2 : Int32) (x3 : Int32) (x4 : Int32) (I : Nat → Nat → Int32) (J : Nat → Nat → Int64)
    (h : ((if (9 : Int32) < x4 then (if x1 = (0 : Int32) then (Φ (some (.int x2)) (mk I J)) else (if x2 = (-1 : Int32) then (Φ (some (.int (-1 : Int32))) (mk I J)) else (Φ (some (.int x3)) (mk I J)))) else ((91 = 91 ∧ mj_isk (mk I J)) ∧ (∃ r3506 : Nat, ((okM I ∧ nM I ≤ 5 ∧ fsR (nM I) (wo (I 104 2) x4) r3506) ∧ (∀ I3507 : Nat → Nat → Int32, (fr (fun c _ => c = 112) I I3507) → (if (fuR (nM I) r3506) = (-1 : Int32) then (mj_G Ω l false mX12_spread d 0 0 Φ 0 0 37 ([some (.ref 91), some (.int x1), some (.int x2), some (.int x3), some (.int (x4 + (1 : Int32))), none], [], (mk I3507 J))) else (if x2 = (-1 : Int32) then (mj_G Ω l false mX12_spread d 0 0 Φ 0 0 37 ([some (.ref 91), some (.int x1), some (.int x4), some (.int (fuR (nM I) r3506)), some (.int (x4 + (1 : Int32))), none], [], (mk I3507 J))) else (if (fuR (nM I) r3506) < x3 then (mj_G Ω l false mX12_spread d 0 0 Φ 0 0 37 ([some (.ref 91), some (.int x1), some (.int x4), some (.int (fuR (nM I) r3506)), some (.int (x4 + (1 : Int32))), none], [], (mk I3507 J))) else (mj_G Ω l false mX12_spread d 0 0 Φ 0 0 37 ([some (.ref 91), some (.int x1), some (.int x2), some (.int x3), some (.int (x4 + (1 : Int32))), none], [], (mk I3507 J))))))))))))) :
    mj_G Ω l false mX12_spread d 0 0 Φ 0 0 37 ([some (.ref 91), some (.int x1), some (.int x2), some (.int x3), some (.int x4), none], [], mk I J) := mj_blk (μ := mX12_spread) (P := pX12_spread) (cut := cutX12_spread) (cs := csX12_spread) dX12_spread csX12_spread_ok hd 56 37 _ h
def tX12_spread : mj_PT := fun as M Φ => match as with
  | [.ref this, .int x] => ((this = 91 ∧ mj_isk M) ∧ (∃ m : Nat, (∃ R : RF, ((qM M.2.2.1 m R) ∧ (∀ I1 : Nat → Nat → Int32, (fr Scr M.2.2.1 I1) → Φ (some (.int (spR (nM M.2.2.1) (lv7 (M.2.2.1 104)) x))) (M.1, M.2.1, I1, M.2.2.2))))))
  | _ => False
set_option maxHeartbeats 4000000 in
theorem mnX12_spread {Ω : mj_Om} {l : Launch} {d : Nat} {Φ : Option Value → mj_M → Prop} (hd : 4 ≤ d) (x : Int32) (m : Nat) (R : RF) (I : Nat → Nat → Int32) (J : Nat → Nat → Int64) (hp : qM I m R) (h : ∀ I1 : Nat → Nat → Int32, (fr Scr I I1) → Φ (some (.int (spR (nM I) (lv7 (I 104)) x))) (mk I1 J)) : mj_Met Ω l false mX12_spread d 0 0 [.ref 91, .int x] (mk I J) Φ := by
  refine inX12_spread hd x I J ?_
  obtain ⟨⟨hc, hn⟩, hR, hFF, h25, h26⟩ := id hp
  have e2 : lv7 (I 104) 2 = I 104 2 := lv7_at (by decide)
  unfold spR at h
  rw [e2] at h
  rw [hc]
  by_cases q : nI (nM I) = 0
  · rw [if_pos q]
    rw [zero_n (by omega)] at q
    rw [cif_f (fun w => by omega)] at h
    exact h I fr_rf
  rw [if_neg q]
  rw [zero_n (by omega)] at q
  by_cases x0 : x < 0
  · rw [if_pos x0]
    rw [cif_f (fun w => w.2.elim (fun y => by rw [y] at x0; exact absurd x0 (by decide)) (fun y => by rw [y] at x0; exact absurd x0 (by decide)))] at h
    exact h I fr_rf
  rw [if_neg x0]
  by_cases x1 : 1 < x
  · rw [if_pos x1]
    rw [cif_f (fun w => w.2.elim (fun y => by rw [y] at x1; exact absurd x1 (by decide)) (fun y => by rw [y] at x1; exact absurd x1 (by decide)))] at h
    exact h I fr_rf
  rw [if_neg x1]
  have hx : x = 0 ∨ x = 1 := by
    rw [Int32.lt_iff_toInt_lt, i_0] at x0
    rw [Int32.lt_iff_toInt_lt, i_1] at x1
    rcases (show x.toInt = 0 ∨ x.toInt = 1 by omega) with y | y
    · exact Or.inl (Int32.toInt_inj.mp y)
    · exact Or.inr (Int32.toInt_inj.mp y)
  rw [cif_t ⟨by omega, hx⟩] at h
  by_cases q5 : 5 < nM I
  · rw [if_pos (show (5 : Int32) < nI (nM I) from nlt (a := 5) q5 (by omega))]
    rw [cif_t q5] at h
    exact h I fr_rf
  rw [if_neg (show ¬ (5 : Int32) < nI (nM I) from nnl (a := 5) (by omega) (by omega))]
  rw [cif_f q5] at h
  refine lp_inv (σ := Nat → Nat → Int32) (n := 10) (G := fun k A => mj_G Ω l false mX12_spread d 0 0 Φ 0 0 37 ([some (.ref 91), some (.int x), some (.int (spM (nM I) (I 104 2) k).1), some (.int (spM (nM I) (I 104 2) k).2), some (.int (nI k)), none], [], mk A J)) (fun k A => fr (fun c _ => c = 112) I A) (fun k A hk hA hkk => ?_) (fun A hA => ?_) 10 0 I (by omega) fr_rf
  · refine bX12_spread_37 hd x _ _ (nI k) A J ?_
    rw [if_neg (show ¬ (9 : Int32) < nI k from nnl (a := 9) (by omega) (by omega))]
    obtain ⟨oA, nA, tA⟩ := mM_fr hA (by (try dsimp only); omega) ⟨hc, hn⟩
    have fs := fsE_ok (n := nM I) (a := k) (I 104 2) (by omega) (by omega) hk
    refine ⟨⟨by trivial, mj_isk_mk _ _⟩, fsE (nM I) (I 104 2) k, ⟨oA, by omega, by rw [nA, hA 104 2 (by (try dsimp only); omega)]; exact fs⟩, fun D hD => ?_⟩
    have hfr := fr_tr hA hD
    have := hkk D hfr
    rw [spM_st (by omega) hk] at this
    rw [nA, jn_succ]
    have ef : fuR (nM I) (fsE (nM I) (I 104 2) k) = nI (fuN (nM I) (I 104 2) k) := rfl
    rw [ef]
    have l1 := fuN_le (nM I) (I 104 2) k
    rw [if_neg (nI_m1 (by omega))]
    by_cases y : (spM (nM I) (I 104 2) k).1 = -1
    · rw [if_pos y] at this ⊢
      exact this
    · rw [if_neg y] at this ⊢
      by_cases z : nI (fuN (nM I) (I 104 2) k) < (spM (nM I) (I 104 2) k).2
      · rw [if_pos z] at this ⊢
        exact this
      · rw [if_neg z] at this ⊢
        exact this
  · refine bX12_spread_37 hd x _ _ (nI 10) A J ?_
    rw [if_pos (show (9 : Int32) < nI 10 from nlt (a := 9) (by omega) (by omega))]
    have h := h A (fr_mo hA (fun c k w => by unfold Scr; omega))
    have l2 := spN_le (nM I) (I 104 2) 10
    have s1 : (spM (nM I) (I 104 2) 10).1 = nI (spN (nM I) (I 104 2) 10).2 := rfl
    have s2 : (spM (nM I) (I 104 2) 10).2 = nI (spN (nM I) (I 104 2) 10).1 := rfl
    rw [s1, s2, if_neg (nI_m1 (by omega))]
    by_cases y : x = 0
    · rw [if_pos y] at h ⊢; exact h
    · rw [if_neg y] at h ⊢; exact h
theorem sdX12_spread : mj_Sd mX12_spread 4 tX12_spread := by
  intro Ω l d hd as M Φ h
  unfold tX12_spread at h
  split at h
  · rename_i z_this x
    obtain ⟨⟨rfl, hM⟩, m, R, hp, h⟩ := h
    rw [mj_isk_of hM]
    exact mnX12_spread hd x m R _ _ hp (by
      rw [mj_isk_of hM] at h
      exact h)
  · exact h.elim
set_option maxHeartbeats 1000000 in
theorem two_spread {Ω : mj_Om} {l : Launch} {I : Nat → Nat → Int32} {J : Nat → Nat → Int64} (x : Int32) (h : Rel I) : Two Ω l mX11_spread mX12_spread [.int x] I J := by
  obtain ⟨m, K, k1, k2⟩ := id h.2.1
  have hq := Rel_c3 h k1 k2
  refine mnX11_spread (Nat.le_of_ble_eq_true rfl) x m (rfK m K) I J hq.1 (fun A hA => ⟨_, A, J, rfl, rfl, ?_⟩)
  obtain ⟨rA, hqM, n1, v1, l1, s1⟩ := Rel_c4 h k1 k2 hA
  refine mnX12_spread (Nat.le_of_ble_eq_true rfl) x m (rfK m K) A J hqM (fun B hB => ⟨B, J, ?_, rfl, Rel_q rA hB⟩)
  obtain ⟨y1, y2, y3, y4, y5⟩ := id rA.2.2.1
  by_cases q : 0 < nF A 39
  · obtain ⟨x1, -⟩ := y5 q
    rw [y3, x1, n1, l1]
  · unfold spR
    rw [cif_f (fun w => by omega), cif_f (fun w => by rw [← n1] at w; omega)]
