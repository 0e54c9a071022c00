/-! ===== duel, reply, strong (by program, wip/whole/p57.py) ===== -/
theorem duelV_b {R : RF} {s : Int32} {x y : Nat} (h : 1 ≤ s.toInt ∧ s.toInt ≤ 60) : -4000 ≤ (duelV R s x y).toInt ∧ (duelV R s x y).toInt ≤ 4000 := by
  obtain ⟨s', hG⟩ := FOk_gunA (R := R) (by decide) (dV_ok (x := x) (y := y) h)
  have b0 := score_b (fl := 0) (by decide) hG (b := 0) (by decide)
  have b1 := score_b (fl := 0) (by decide) hG (b := 1) (by decide)
  unfold duelV
  rw [i_sub (by omega)]
  omega
noncomputable def dsm (R : RF) (s : Int32) (x : Nat) : Nat → Int32
  | 0 => 0
  | k + 1 => dsm R s x k + duelV R s x k
theorem dsm_b {R : RF} {s : Int32} {x : Nat} (h : 1 ≤ s.toInt ∧ s.toInt ≤ 60) : ∀ k : Nat, k ≤ 4 → -(4000 * (k : Int)) ≤ (dsm R s x k).toInt ∧ (dsm R s x k).toInt ≤ 4000 * k := by
  intro k
  induction k with
  | zero => intro _; rw [dsm, i_0]; omega
  | succ k ih =>
    intro hk
    have h1 := ih (by omega)
    have h2 := duelV_b (R := R) (x := x) (y := k) h
    rw [dsm, i_add (by omega)]
    omega
def amx (f : Nat → Int32) : Nat → Nat
  | 0 => 0
  | 1 => 0
  | n + 2 => if f (amx f (n + 1)) < f (n + 1) then n + 1 else amx f (n + 1)
theorem amx_s {f : Nat → Int32} {n : Nat} (h : 0 < n) : amx f (n + 1) = if f (amx f n) < f n then n else amx f n := by
  match n, h with
  | n + 1, _ => rfl
theorem amx_b {f : Nat → Int32} : ∀ n, 0 < n → amx f n < n := by
  intro n
  induction n with
  | zero => intro h; omega
  | succ n ih =>
    intro _
    rcases Nat.eq_zero_or_pos n with q | q
    · subst q; exact Nat.zero_lt_one
    · rw [amx_s q]
      have := ih q
      split <;> omega
/-- the class's best so far -/
def aC (f : Nat → Int32) (r : Nat) (x2 x3 : Int32) : Prop := (r = 0 ∧ x2 = -1000000 ∧ x3 = -1) ∨ (0 < r ∧ x2 = f (amx f r) ∧ x3 = nI (amx f r))
theorem aC_y {f : Nat → Int32} {r : Nat} {x2 x3 : Int32} (h : aC f r x2 x3) (hx : x2 < f r) : aC f (r + 1) (f r) (nI r) := by
  refine Or.inr ⟨by omega, ?_⟩
  rcases h with ⟨h1, h2, h3⟩ | ⟨h1, h2, h3⟩
  · subst h1; exact ⟨rfl, rfl⟩
  · rw [amx_s h1, if_pos (by rw [← h2]; exact hx)]; exact ⟨rfl, rfl⟩
theorem aC_n {f : Nat → Int32} {r : Nat} {x2 x3 : Int32} (h : aC f r x2 x3) (hf : -100000 ≤ (f r).toInt) (hx : ¬ x2 < f r) : aC f (r + 1) x2 x3 := by
  refine Or.inr ⟨by omega, ?_⟩
  rcases h with ⟨h1, h2, h3⟩ | ⟨h1, h2, h3⟩
  · exfalso
    apply hx
    rw [h2, Int32.lt_iff_toInt_lt, mH]
    omega
  · rw [amx_s h1, if_neg (by rw [← h2]; exact hx)]; exact ⟨h2, h3⟩
theorem RuM_q {I I1 : Nat → Nat → Int32} {n : Nat} {R : RF} (h : RuM I n R) (e : fr Scr I I1) : RuM I1 n R := by
  obtain ⟨K, ⟨h1, h2, h3⟩, h4⟩ := h
  exact ⟨K, ⟨by rw [e 91 13 (by unfold Scr; omega)]; exact h1, h2, fun r hr => CLM_fr2 (by omega) (h3 r hr) e⟩, h4⟩
theorem qM_q {I I1 : Nat → Nat → Int32} {m : Nat} {R : RF} (h : qM I m R) (e : fr Scr I I1) : qM I1 m R ∧ nM I1 = nM I ∧ VM I1 = VM I ∧ lv7 (I1 104) = lv7 (I 104) ∧ I1 106 48 = I 106 48 := by
  obtain ⟨w1, w2, w3⟩ := MM_fr (I := I) (I1 := I1) (e 91 22 (by unfold Scr; omega)) (fun k => e 105 k (by unfold Scr; omega)) (fun k => e 106 k (by unfold Scr; omega))
  have C7 : lv7 (I1 104) = lv7 (I 104) := lv7_fr (fun k => e 104 k (by unfold Scr; omega))
  have s : I1 106 48 = I 106 48 := e 106 48 (by unfold Scr; omega)
  refine ⟨⟨w3 h.1, RuM_q h.2.1 e, fun hn => ?_, by rw [e 91 25 (by unfold Scr; omega)]; exact h.2.2.2.1, by rw [e 91 26 (by unfold Scr; omega)]; exact h.2.2.2.2⟩, w1, w2, C7, s⟩
  rw [w1] at hn ⊢
  rw [w2, C7, s]
  exact h.2.2.1 hn
noncomputable def duelR (n m : Nat) (R : RF) (s x y : Int32) : Int32 := cif (0 < n ∧ okBN m x ∧ okBN m y) (duelV R s x.toNatClampNeg y.toNatClampNeg) (-1000000)
noncomputable def replyR (n m : Nat) (R : RF) (s x : Int32) : Int32 := cif (0 < n ∧ okBN m x) (nI (amx (fun r => duelV R s r x.toNatClampNeg) m)) (-1)
noncomputable def strongR (n m : Nat) (R : RF) (s : Int32) : Int32 := cif (0 < n ∧ 0 < m) (nI (amx (fun r => dsm R s r m) m)) (-1)
theorem n0_i {n : Nat} (hn : n ≤ 8) : ((0 : Int32) < nI n) = (0 < n) := by rw [jn_ltx0, jn_cl (by omega)]
def csX11_duel : List (Nat × Nat × Nat × mj_PT) := [(204, 0, 1, mj_rcv 11 tX11_hasWater), (300, 0, 2, mj_rcv 6 tX6_has), (303, 0, 3, mj_rcv 11 tX11_duelOf)]
theorem csX11_duel_ok : mj_Cs mX11_duel 7 csX11_duel := (mj_CsV (D' := 1) (ci := 11) (q := (RX11, TX11, 18)) sdX11_hasWater (Nat.le_of_ble_eq_true rfl) fX11_hasWater rfl rfl iX11_hasWater vX11_hasWater (by decide +kernel) l11_204 (mj_CsV (D' := 1) (ci := 6) (q := (RX6, TX6, 4)) sdX6_has (Nat.le_of_ble_eq_true rfl) fX6_has rfl rfl iX6_has vX6_has (by decide +kernel) l11_300 (mj_CsV (D' := 6) (ci := 11) (q := (RX11, TX11, 18)) sdX11_duelOf (Nat.le_of_ble_eq_true rfl) fX11_duelOf rfl rfl iX11_duelOf vX11_duelOf (by decide +kernel) l11_303 mj_Cs0)))
def cutX11_duel : List (Nat × List Bool) := []
set_option maxRecDepth 100000 in
set_option maxHeartbeats 4000000 in
theorem inX11_duel {Ω : mj_Om} {l : Launch} {d : Nat} {Φ : Option Value → mj_M → Prop} (hd : 7 ≤ d) (x : Int32) (y : Int32) (I : Nat → Nat → Int32) (J : Nat → Nat → Int64)
    (h : ((if (0 : Int32) < (I 39 8) then (if x < (0 : Int32) then (Φ (some (.int (-1000000 : Int32))) (mk I J)) else (if x < (I 3 3) then (if y < (0 : Int32) then (Φ (some (.int (-1000000 : Int32))) (mk I J)) else (if y < (I 3 3) then ((0 = 0 ∧ mj_isk (mk I J)) ∧ (∃ x769 : Nat, x = nI x769 ∧ (∃ y770 : Nat, y = nI y770 ∧ (∃ m771 : Nat, (∃ R772 : RF, ((RuC I m771 R772 ∧ lineOk (lv7 (I 27))) ∧ (∀ I773 : Nat → Nat → Int32, (fr Scr I I773) → (Φ (some (.int (duelV R772 (lv7 (I 27) 5) x769 y770))) (mk I773 J))))))))) else (Φ (some (.int (-1000000 : Int32))) (mk I J)))) else (Φ (some (.int (-1000000 : Int32))) (mk I J)))) else (Φ (some (.int (-1000000 : Int32))) (mk I J))))) :
    mj_Met Ω l false mX11_duel d 0 0 [.ref 0, .int x, .int y] (mk I J) Φ := mj_entry (by decide) rfl (fun h => (by cases h)) (Nat.le_of_ble_eq_true rfl) (mj_blk (μ := mX11_duel) (P := pX11_duel) (cut := cutX11_duel) (cs := csX11_duel) dX11_duel csX11_duel_ok hd 21 0 _ h)
def tX11_duel : mj_PT := fun as M Φ => match as with
  | [.ref this, .int x, .int y] => ((this = 0 ∧ mj_isk M) ∧ (∃ m : Nat, (∃ R : RF, ((qC M.2.2.1 m R) ∧ (∀ I1 : Nat → Nat → Int32, (fr Scr M.2.2.1 I1) → Φ (some (.int (duelR (nF M.2.2.1 39) m R (lv7 (M.2.2.1 27) 5) x y))) (M.1, M.2.1, I1, M.2.2.2))))))
  | _ => False
theorem mnX11_duel {Ω : mj_Om} {l : Launch} {d : Nat} {Φ : Option Value → mj_M → Prop} (hd : 7 ≤ d) (x : Int32) (y : Int32) (m : Nat) (R : RF) (I : Nat → Nat → Int32) (J : Nat → Nat → Int64) (hp : qC I m R) (h : ∀ I1 : Nat → Nat → Int32, (fr Scr I I1) → Φ (some (.int (duelR (nF I 39) m R (lv7 (I 27) 5) x y))) (mk I1 J)) : mj_Met Ω l false mX11_duel d 0 0 [.ref 0, .int x, .int y] (mk I J) Φ := by
  refine inX11_duel hd x y I J ?_
  obtain ⟨⟨hc, hn⟩, hR, hFF⟩ := id hp
  have h33 : I 3 3 = nI m := by obtain ⟨K, hK, -⟩ := hR; exact hK.1
  have hm4 : m ≤ 4 := by obtain ⟨K, hK, -⟩ := hR; exact hK.2.1
  rw [hc]
  have hH : ¬ (0 < nF I 39 ∧ okBN m x ∧ okBN m y) → Φ (some (.int (-1000000))) (mk I J) := fun q => by
    have := h I fr_rf
    unfold duelR at this
    rwa [cif_f q] at this
  by_cases h0 : 0 < nF I 39
  case neg => rw [if_neg (by rw [n0_i hn]; exact h0)]; exact hH (fun q => h0 q.1)
  rw [if_pos (by rw [n0_i hn]; exact h0), h33]
  by_cases x0 : x < 0
  · rw [if_pos x0]; exact hH (fun q => absurd x0 (Int32.not_lt.mpr q.2.1.1))
  rw [if_neg x0]
  by_cases x1 : x < nI m
  case neg => rw [if_neg x1]; exact hH (fun q => x1 q.2.1.2)
  rw [if_pos x1]
  by_cases y0 : y < 0
  · rw [if_pos y0]; exact hH (fun q => absurd y0 (Int32.not_lt.mpr q.2.2.1))
  rw [if_neg y0]
  by_cases y1 : y < nI m
  case neg => rw [if_neg y1]; exact hH (fun q => y1 q.2.2.2)
  rw [if_pos y1]
  refine ⟨⟨by trivial, mj_isk_mk _ _⟩, _, jn_of (Int32.not_lt.mp x0), _, jn_of (Int32.not_lt.mp y0), m, R, ⟨hR, (hFF h0).1⟩, fun I2 h2 => ?_⟩
  have h' := h I2 h2
  unfold duelR at h'
  rwa [cif_t ⟨h0, ⟨Int32.not_lt.mp x0, x1⟩, ⟨Int32.not_lt.mp y0, y1⟩⟩] at h'
theorem sdX11_duel : mj_Sd mX11_duel 7 tX11_duel := by
  intro Ω l d hd as M Φ h
  unfold tX11_duel at h
  split at h
  · rename_i z_this x y
    obtain ⟨⟨rfl, hM⟩, m, R, hp, h⟩ := h
    rw [mj_isk_of hM]
    exact mnX11_duel hd x y m R _ _ hp (by
      rw [mj_isk_of hM] at h
      exact h)
  · exact h.elim
def csX11_reply : List (Nat × Nat × Nat × mj_PT) := [(204, 0, 1, mj_rcv 11 tX11_hasWater), (300, 0, 2, mj_rcv 6 tX6_has), (303, 0, 3, mj_rcv 11 tX11_duelOf)]
theorem csX11_reply_ok : mj_Cs mX11_reply 7 csX11_reply := (mj_CsV (D' := 1) (ci := 11) (q := (RX11, TX11, 18)) sdX11_hasWater (Nat.le_of_ble_eq_true rfl) fX11_hasWater rfl rfl iX11_hasWater vX11_hasWater (by decide +kernel) l11_204 (mj_CsV (D' := 1) (ci := 6) (q := (RX6, TX6, 4)) sdX6_has (Nat.le_of_ble_eq_true rfl) fX6_has rfl rfl iX6_has vX6_has (by decide +kernel) l11_300 (mj_CsV (D' := 6) (ci := 11) (q := (RX11, TX11, 18)) sdX11_duelOf (Nat.le_of_ble_eq_true rfl) fX11_duelOf rfl rfl iX11_duelOf vX11_duelOf (by decide +kernel) l11_303 mj_Cs0)))
def cutX11_reply : List (Nat × List Bool) := [(28, [true, true, true, true, true, false])]
set_option maxRecDepth 100000 in
set_option maxHeartbeats 4000000 in
theorem inX11_reply {Ω : mj_Om} {l : Launch} {d : Nat} {Φ : Option Value → mj_M → Prop} (hd : 7 ≤ d) (x : Int32) (I : Nat → Nat → Int32) (J : Nat → Nat → Int64)
    (h : ((if (0 : Int32) < (I 39 8) then (if x < (0 : Int32) then (Φ (some (.int (-1 : Int32))) (mk I J)) else (if x < (I 3 3) then (mj_G Ω l false mX11_reply d 0 0 Φ 0 0 28 ([some (.ref 0), some (.int x), some (.int (-1000000 : Int32)), some (.int (-1 : Int32)), some (.int (0 : Int32)), none], [], (mk I J))) else (Φ (some (.int (-1 : Int32))) (mk I J)))) else (Φ (some (.int (-1 : Int32))) (mk I J))))) :
    mj_Met Ω l false mX11_reply d 0 0 [.ref 0, .int x] (mk I J) Φ := mj_entry (by decide) rfl (fun h => (by cases h)) (Nat.le_of_ble_eq_true rfl) (mj_blk (μ := mX11_reply) (P := pX11_reply) (cut := cutX11_reply) (cs := csX11_reply) dX11_reply csX11_reply_ok hd 38 0 _ h)
set_option maxRecDepth 100000 in
set_option maxHeartbeats 4000000 in
theorem bX11_reply_28 {Ω : mj_Om} {l : Launch} {d : Nat} {Φ : Option Value → mj_M → Prop} (hd : 7 ≤ d) (x1 : Int32) (x2 : Int32) (x3 : Int32) (x4 : Int32) (I : Nat → Nat → Int32) (J : Nat → Nat → Int64)
    (h : ((if x4 < (I 3 3) then ((0 = 0 ∧ mj_isk (mk I J)) ∧ (∃ x781 : Nat, x4 = nI x781 ∧ (∃ y782 : Nat, x1 = nI y782 ∧ (∃ m783 : Nat, (∃ R784 : RF, ((RuC I m783 R784 ∧ lineOk (lv7 (I 27))) ∧ (∀ I785 : Nat → Nat → Int32, (fr Scr I I785) → (if x2 < (duelV R784 (lv7 (I 27) 5) x781 y782) then (mj_G Ω l false mX11_reply d 0 0 Φ 0 0 28 ([some (.ref 0), some (.int x1), some (.int (duelV R784 (lv7 (I 27) 5) x781 y782)), some (.int x4), some (.int (x4 + (1 : Int32))), none], [], (mk I785 J))) else (mj_G Ω l false mX11_reply d 0 0 Φ 0 0 28 ([some (.ref 0), some (.int x1), some (.int x2), some (.int x3), some (.int (x4 + (1 : Int32))), none], [], (mk I785 J))))))))))) else (Φ (some (.int x3)) (mk I J))))) :
    mj_G Ω l false mX11_reply d 0 0 Φ 0 0 28 ([some (.ref 0), some (.int x1), some (.int x2), some (.int x3), some (.int x4), none], [], mk I J) := mj_blk (μ := mX11_reply) (P := pX11_reply) (cut := cutX11_reply) (cs := csX11_reply) dX11_reply csX11_reply_ok hd 38 28 _ h
def tX11_reply : mj_PT := fun as M Φ => match as with
  | [.ref this, .int x] => ((this = 0 ∧ mj_isk M) ∧ (∃ m : Nat, (∃ R : RF, ((qC M.2.2.1 m R) ∧ (∀ I1 : Nat → Nat → Int32, (fr Scr M.2.2.1 I1) → Φ (some (.int (replyR (nF M.2.2.1 39) m R (lv7 (M.2.2.1 27) 5) x))) (M.1, M.2.1, I1, M.2.2.2))))))
  | _ => False
set_option maxHeartbeats 4000000 in
theorem mnX11_reply {Ω : mj_Om} {l : Launch} {d : Nat} {Φ : Option Value → mj_M → Prop} (hd : 7 ≤ d) (x : Int32) (m : Nat) (R : RF) (I : Nat → Nat → Int32) (J : Nat → Nat → Int64) (hp : qC I m R) (h : ∀ I1 : Nat → Nat → Int32, (fr Scr I I1) → Φ (some (.int (replyR (nF I 39) m R (lv7 (I 27) 5) x))) (mk I1 J)) : mj_Met Ω l false mX11_reply d 0 0 [.ref 0, .int x] (mk I J) Φ := by
  refine inX11_reply hd x I J ?_
  obtain ⟨⟨hc, hn⟩, hR, hFF⟩ := id hp
  have h33 : I 3 3 = nI m := by obtain ⟨K, hK, -⟩ := hR; exact hK.1
  have hm4 : m ≤ 4 := by obtain ⟨K, hK, -⟩ := hR; exact hK.2.1
  rw [hc]
  have hH : ¬ (0 < nF I 39 ∧ okBN m x) → Φ (some (.int (-1))) (mk I J) := fun q => by
    have := h I fr_rf
    unfold replyR at this
    rwa [cif_f q] at this
  by_cases h0 : 0 < nF I 39
  case neg => rw [if_neg (by rw [n0_i hn]; exact h0)]; exact hH (fun q => h0 q.1)
  rw [if_pos (by rw [n0_i hn]; exact h0), h33]
  by_cases x0 : x < 0
  · rw [if_pos x0]; exact hH (fun q => absurd x0 (Int32.not_lt.mpr q.2.1))
  rw [if_neg x0]
  by_cases x1 : x < nI m
  case neg => rw [if_neg x1]; exact hH (fun q => x1 q.2.2)
  rw [if_pos x1]
  have hF := hFF h0
  have l5 := hF.1.2.2.2.2.2.1
  have ex := jn_of (Int32.not_lt.mp x0)
  have hxm : x.toNatClampNeg < m := by rw [ex, jn_lt (cl_lt _) (by omega)] at x1; exact x1
  unfold replyR at h
  rw [cif_t ⟨h0, Int32.not_lt.mp x0, x1⟩] at h
  have key : ∀ (j r : Nat) (x2 x3 : Int32) (I' : Nat → Nat → Int32), r + j = m → aC (fun r => duelV R (lv7 (I 27) 5) r x.toNatClampNeg) r x2 x3 → fr Scr I I' → mj_G Ω l false mX11_reply d 0 0 Φ 0 0 28 ([some (.ref 0), some (.int x), some (.int x2), some (.int x3), some (.int (nI r)), none], [], mk I' J) := by
    intro j
    induction j with
    | zero =>
      intro r x2 x3 I' hr ha hfr
      refine bX11_reply_28 hd x x2 x3 (nI r) I' J ?_
      rw [hfr 3 3 (by unfold Scr; omega), h33, if_neg (by rw [jn_lt (by omega) (by omega)]; omega)]
      obtain rfl : r = m := by omega
      rcases ha with ⟨g1, g2, g3⟩ | ⟨g1, g2, g3⟩
      · omega
      · rw [g3]; exact h I' hfr
    | succ j ih =>
      intro r x2 x3 I' hr ha hfr
      refine bX11_reply_28 hd x x2 x3 (nI r) I' J ?_
      rw [hfr 3 3 (by unfold Scr; omega), h33, if_pos (by rw [jn_lt (by omega) (by omega)]; omega), jn_succ]
      obtain ⟨q1, q2, q3, q4, q5⟩ := qC_q hp hfr
      refine ⟨⟨by trivial, mj_isk_mk _ _⟩, r, rfl, _, ex, m, R, ⟨q1.2.1, by rw [q4]; exact hF.1⟩, fun I2 h2 => ?_⟩
      rw [q4]
      by_cases z : x2 < duelV R (lv7 (I 27) 5) r x.toNatClampNeg
      · rw [if_pos z]; exact ih (r + 1) _ _ I2 (by omega) (aC_y ha z) (fr_tr hfr h2)
      · rw [if_neg z]; exact ih (r + 1) _ _ I2 (by omega) (aC_n ha (by have := (duelV_b (R := R) (x := r) (y := x.toNatClampNeg) l5).1; omega) z) (fr_tr hfr h2)
  exact key m 0 _ _ I (by omega) (Or.inl ⟨rfl, rfl, rfl⟩) fr_rf
theorem sdX11_reply : mj_Sd mX11_reply 7 tX11_reply := by
  intro Ω l d hd as M Φ h
  unfold tX11_reply at h
  split at h
  · rename_i z_this x
    obtain ⟨⟨rfl, hM⟩, m, R, hp, h⟩ := h
    rw [mj_isk_of hM]
    exact mnX11_reply hd x m R _ _ hp (by
      rw [mj_isk_of hM] at h
      exact h)
  · exact h.elim
def csX11_strong : List (Nat × Nat × Nat × mj_PT) := [(204, 0, 1, mj_rcv 11 tX11_hasWater), (303, 0, 3, mj_rcv 11 tX11_duelOf)]
theorem csX11_strong_ok : mj_Cs mX11_strong 7 csX11_strong := (mj_CsV (D' := 1) (ci := 11) (q := (RX11, TX11, 18)) sdX11_hasWater (Nat.le_of_ble_eq_true rfl) fX11_hasWater rfl rfl iX11_hasWater vX11_hasWater (by decide +kernel) l11_204 (mj_CsV (D' := 6) (ci := 11) (q := (RX11, TX11, 18)) sdX11_duelOf (Nat.le_of_ble_eq_true rfl) fX11_duelOf rfl rfl iX11_duelOf vX11_duelOf (by decide +kernel) l11_303 mj_Cs0))
def cutX11_strong : List (Nat × List Bool) := [(16, [true, true, true, true, false, false]), (33, [true, true, true, true, true, true])]
set_option maxRecDepth 100000 in
set_option maxHeartbeats 4000000 in
theorem inX11_strong {Ω : mj_Om} {l : Launch} {d : Nat} {Φ : Option Value → mj_M → Prop} (hd : 7 ≤ d) (I : Nat → Nat → Int32) (J : Nat → Nat → Int64)
    (h : ((if (0 : Int32) < (I 39 8) then (mj_G Ω l false mX11_strong d 0 0 Φ 0 0 16 ([some (.ref 0), some (.int (-1000000 : Int32)), some (.int (-1 : Int32)), some (.int (0 : Int32)), none, none], [], (mk I J))) else (Φ (some (.int (-1 : Int32))) (mk I J))))) :
    mj_Met Ω l false mX11_strong d 0 0 [.ref 0] (mk I J) Φ := mj_entry (by decide) rfl (fun h => (by cases h)) (Nat.le_of_ble_eq_true rfl) (mj_blk (μ := mX11_strong) (P := pX11_strong) (cut := cutX11_strong) (cs := csX11_strong) dX11_strong csX11_strong_ok hd 46 0 _ h)
set_option maxRecDepth 100000 in
set_option maxHeartbeats 4000000 in
theorem bX11_strong_16 {Ω : mj_Om} {l : Launch} {d : Nat} {Φ : Option Value → mj_M → Prop} (hd : 7 ≤ d) (x1 : Int32) (x2 : Int32) (x3 : Int32) (I : Nat → Nat → Int32) (J : Nat → Nat → Int64)
    (h : ((if x3 < (I 3 3) then (mj_G Ω l false mX11_strong d 0 0 Φ 0 0 33 ([some (.ref 0), some (.int x1), some (.int x2), some (.int x3), some (.int (0 : Int32)), some (.int (0 : Int32))], [], (mk I J))) else (Φ (some (.int x2)) (mk I J))))) :
    mj_G Ω l false mX11_strong d 0 0 Φ 0 0 16 ([some (.ref 0), some (.int x1), some (.int x2), some (.int x3), none, none], [], mk I J) := mj_blk (μ := mX11_strong) (P := pX11_strong) (cut := cutX11_strong) (cs := csX11_strong) dX11_strong csX11_strong_ok hd 46 16 _ h
set_option maxRecDepth 100000 in
set_option maxHeartbeats 4000000 in
theorem bX11_strong_33 {Ω : mj_Om} {l : Launch} {d : Nat} {Φ : Option Value → mj_M → Prop} (hd : 7 ≤ d) (x1 : Int32) (x2 : Int32) (x3 : Int32) (x4 : Int32) (x5 : Int32) (I : Nat → Nat → Int32) (J : Nat → Nat → Int64)
    (h : ((if x5 < (I 3 3) then ((0 = 0 ∧ mj_isk (mk I J)) ∧ (∃ x793 : Nat, x3 = nI x793 ∧ (∃ y794 : Nat, x5 = nI y794 ∧ (∃ m795 : Nat, (∃ R796 : RF, ((RuC I m795 R796 ∧ lineOk (lv7 (I 27))) ∧ (∀ I797 : Nat → Nat → Int32, (fr Scr I I797) → (mj_G Ω l false mX11_strong d 0 0 Φ 0 0 33 ([some (.ref 0), some (.int x1), some (.int x2), some (.int x3), some (.int (x4 + (duelV R796 (lv7 (I 27) 5) x793 y794))), some (.int (x5 + (1 : Int32)))], [], (mk I797 J)))))))))) else (if x1 < x4 then (mj_G Ω l false mX11_strong d 0 0 Φ 0 0 16 ([some (.ref 0), some (.int x4), some (.int x3), some (.int (x3 + (1 : Int32))), none, none], [], (mk I J))) else (mj_G Ω l false mX11_strong d 0 0 Φ 0 0 16 ([some (.ref 0), some (.int x1), some (.int x2), some (.int (x3 + (1 : Int32))), none, none], [], (mk I J))))))) :
    mj_G Ω l false mX11_strong d 0 0 Φ 0 0 33 ([some (.ref 0), some (.int x1), some (.int x2), some (.int x3), some (.int x4), some (.int x5)], [], mk I J) := mj_blk (μ := mX11_strong) (P := pX11_strong) (cut := cutX11_strong) (cs := csX11_strong) dX11_strong csX11_strong_ok hd 46 33 _ h
def tX11_strong : mj_PT := fun as M Φ => match as with
  | [.ref this] => ((this = 0 ∧ mj_isk M) ∧ (∃ m : Nat, (∃ R : RF, ((qC M.2.2.1 m R) ∧ (∀ I1 : Nat → Nat → Int32, (fr Scr M.2.2.1 I1) → Φ (some (.int (strongR (nF M.2.2.1 39) m R (lv7 (M.2.2.1 27) 5)))) (M.1, M.2.1, I1, M.2.2.2))))))
  | _ => False
set_option maxHeartbeats 4000000 in
theorem mnX11_strong {Ω : mj_Om} {l : Launch} {d : Nat} {Φ : Option Value → mj_M → Prop} (hd : 7 ≤ d) (m : Nat) (R : RF) (I : Nat → Nat → Int32) (J : Nat → Nat → Int64) (hp : qC I m R) (h : ∀ I1 : Nat → Nat → Int32, (fr Scr I I1) → Φ (some (.int (strongR (nF I 39) m R (lv7 (I 27) 5)))) (mk I1 J)) : mj_Met Ω l false mX11_strong d 0 0 [.ref 0] (mk I J) Φ := by
  refine inX11_strong hd I J ?_
  obtain ⟨⟨hc, hn⟩, hR, hFF⟩ := id hp
  have h33 : I 3 3 = nI m := by obtain ⟨K, hK, -⟩ := hR; exact hK.1
  have hm4 : m ≤ 4 := by obtain ⟨K, hK, -⟩ := hR; exact hK.2.1
  rw [hc]
  by_cases h0 : 0 < nF I 39
  case neg =>
    rw [if_neg (by rw [n0_i hn]; exact h0)]
    have h' := h I fr_rf
    unfold strongR at h'
    rwa [cif_f (fun q => h0 q.1)] at h'
  rw [if_pos (by rw [n0_i hn]; exact h0)]
  have hF := hFF h0
  have l5 := hF.1.2.2.2.2.2.1
  have key : ∀ (j r : Nat) (x1 x2 : Int32) (I' : Nat → Nat → Int32), r + j = m → aC (fun r => dsm R (lv7 (I 27) 5) r m) r x1 x2 → fr Scr I I' → mj_G Ω l false mX11_strong d 0 0 Φ 0 0 16 ([some (.ref 0), some (.int x1), some (.int x2), some (.int (nI r)), none, none], [], mk I' J) := by
    intro j
    induction j with
    | zero =>
      intro r x1 x2 I' hr ha hfr
      refine bX11_strong_16 hd x1 x2 (nI r) I' J ?_
      rw [hfr 3 3 (by unfold Scr; omega), h33, if_neg (by rw [jn_lt (by omega) (by omega)]; omega)]
      obtain rfl : r = m := by omega
      have h' := h I' hfr
      unfold strongR at h'
      rcases ha with ⟨g1, g2, g3⟩ | ⟨g1, g2, g3⟩
      · rw [cif_f (fun q => by omega)] at h'
        rw [g3]; exact h'
      · rw [cif_t ⟨h0, g1⟩] at h'
        rw [g3]; exact h'
    | succ j ih =>
      intro r x1 x2 I' hr ha hfr
      refine bX11_strong_16 hd x1 x2 (nI r) I' J ?_
      rw [hfr 3 3 (by unfold Scr; omega), h33, if_pos (by rw [jn_lt (by omega) (by omega)]; omega)]
      have inner : ∀ (i t : Nat) (I2 : Nat → Nat → Int32), t + i = m → fr Scr I I2 → mj_G Ω l false mX11_strong d 0 0 Φ 0 0 33 ([some (.ref 0), some (.int x1), some (.int x2), some (.int (nI r)), some (.int (dsm R (lv7 (I 27) 5) r t)), some (.int (nI t))], [], mk I2 J) := by
        intro i
        induction i with
        | zero =>
          intro t I2 ht hfr2
          refine bX11_strong_33 hd x1 x2 (nI r) (dsm R (lv7 (I 27) 5) r t) (nI t) I2 J ?_
          rw [hfr2 3 3 (by unfold Scr; omega), h33, if_neg (by rw [jn_lt (by omega) (by omega)]; omega), jn_succ]
          obtain rfl : t = m := by omega
          by_cases z : x1 < dsm R (lv7 (I 27) 5) r t
          · rw [if_pos z]; exact ih (r + 1) _ _ I2 (by omega) (aC_y ha z) hfr2
          · rw [if_neg z]; exact ih (r + 1) _ _ I2 (by omega) (aC_n ha (by have := (dsm_b (R := R) (x := r) l5 t hm4).1; omega) z) hfr2
        | succ i ih2 =>
          intro t I2 ht hfr2
          refine bX11_strong_33 hd x1 x2 (nI r) (dsm R (lv7 (I 27) 5) r t) (nI t) I2 J ?_
          rw [hfr2 3 3 (by unfold Scr; omega), h33, if_pos (by rw [jn_lt (by omega) (by omega)]; omega), jn_succ]
          obtain ⟨q1, q2, q3, q4, q5⟩ := qC_q hp hfr2
          refine ⟨⟨by trivial, mj_isk_mk _ _⟩, r, rfl, t, rfl, m, R, ⟨q1.2.1, by rw [q4]; exact hF.1⟩, fun I3 h3 => ?_⟩
          rw [q4]
          exact ih2 (t + 1) I3 (by omega) (fr_tr hfr2 h3)
      exact inner m 0 I' (by omega) hfr
  exact key m 0 _ _ I (by omega) (Or.inl ⟨rfl, rfl, rfl⟩) fr_rf
theorem sdX11_strong : mj_Sd mX11_strong 7 tX11_strong := by
  intro Ω l d hd as M Φ h
  unfold tX11_strong at h
  split at h
  · rename_i z_this
    obtain ⟨⟨rfl, hM⟩, m, R, hp, h⟩ := h
    rw [mj_isk_of hM]
    exact mnX11_strong hd m R _ _ hp (by
      rw [mj_isk_of hM] at h
      exact h)
  · exact h.elim
def csX12_duel : List (Nat × Nat × Nat × mj_PT) := [(419, 0, 2, mj_rcv 12 tX12_isLaw), (422, 0, 3, mj_rcv 12 tX12_duelOf)]
theorem csX12_duel_ok : mj_Cs mX12_duel 11 csX12_duel := (mj_CsV (D' := 2) (ci := 12) (q := (RX12, TX12, 45)) sdX12_isLaw (Nat.le_of_ble_eq_true rfl) fX12_isLaw rfl rfl iX12_isLaw vX12_isLaw (by decide +kernel) l12_419 (mj_CsV (D' := 10) (ci := 12) (q := (RX12, TX12, 45)) sdX12_duelOf (Nat.le_of_ble_eq_true rfl) fX12_duelOf rfl rfl iX12_duelOf vX12_duelOf (by decide +kernel) l12_422 mj_Cs0))
def cutX12_duel : List (Nat × List Bool) := []
set_option maxRecDepth 100000 in
set_option maxHeartbeats 4000000 in
theorem inX12_duel {Ω : mj_Om} {l : Launch} {d : Nat} {Φ : Option Value → mj_M → Prop} (hd : 11 ≤ d) (x : Int32) (y : Int32) (I : Nat → Nat → Int32) (J : Nat → Nat → Int64)
    (h : ((if (0 : Int32) < (I 91 22) then (if x < (0 : Int32) then (Φ (some (.int (-1000000 : Int32))) (mk I J)) else (if ((I 91 13) - (1 : Int32)) < x then (Φ (some (.int (-1000000 : Int32))) (mk I J)) else (if (0 : Int32) < (I 91 22) then (if y < (0 : Int32) then (Φ (some (.int (-1000000 : Int32))) (mk I J)) else (if ((I 91 13) - (1 : Int32)) < y then (Φ (some (.int (-1000000 : Int32))) (mk I J)) else ((91 = 91 ∧ mj_isk (mk I J)) ∧ (∃ x805 : Nat, x = nI x805 ∧ (∃ y806 : Nat, y = nI y806 ∧ (∃ m807 : Nat, (∃ R808 : RF, ((qM I m807 R808 ∧ 0 < nM I ∧ x805 < 4 ∧ y806 < 4) ∧ (∀ I809 : Nat → Nat → Int32, (fr Scr I I809) → (Φ (some (.int (duelV R808 (lv7 (I 104) 5) x805 y806))) (mk I809 J))))))))))) else (Φ (some (.int (-1000000 : Int32))) (mk I J))))) else (Φ (some (.int (-1000000 : Int32))) (mk I J))))) :
    mj_Met Ω l false mX12_duel d 0 0 [.ref 91, .int x, .int y] (mk I J) Φ := mj_entry (by decide) rfl (fun h => (by cases h)) (Nat.le_of_ble_eq_true rfl) (mj_blk (μ := mX12_duel) (P := pX12_duel) (cut := cutX12_duel) (cs := csX12_duel) dX12_duel csX12_duel_ok hd 16 0 _ h)
def tX12_duel : mj_PT := fun as M Φ => match as with
  | [.ref this, .int x, .int y] => ((this = 91 ∧ mj_isk M) ∧ (∃ m : Nat, (∃ R : RF, ((qM M.2.2.1 m R) ∧ (∀ I1 : Nat → Nat → Int32, (fr Scr M.2.2.1 I1) → Φ (some (.int (duelR (nM M.2.2.1) m R (lv7 (M.2.2.1 104) 5) x y))) (M.1, M.2.1, I1, M.2.2.2))))))
  | _ => False
theorem mnX12_duel {Ω : mj_Om} {l : Launch} {d : Nat} {Φ : Option Value → mj_M → Prop} (hd : 11 ≤ d) (x : Int32) (y : Int32) (m : Nat) (R : RF) (I : Nat → Nat → Int32) (J : Nat → Nat → Int64) (hp : qM I m R) (h : ∀ I1 : Nat → Nat → Int32, (fr Scr I I1) → Φ (some (.int (duelR (nM I) m R (lv7 (I 104) 5) x y))) (mk I1 J)) : mj_Met Ω l false mX12_duel d 0 0 [.ref 91, .int x, .int y] (mk I J) Φ := by
  refine inX12_duel hd x y I J ?_
  obtain ⟨⟨hc, hn⟩, hR, hFF, h25, h26⟩ := id hp
  have h13 : I 91 13 = nI m := by obtain ⟨K, hK, -⟩ := hR; exact hK.1
  have hm4 : m ≤ 4 := by obtain ⟨K, hK, -⟩ := hR; exact hK.2.1
  rw [hc]
  have hH : ¬ (0 < nM I ∧ okBN m x ∧ okBN m y) → Φ (some (.int (-1000000))) (mk I J) := fun q => by
    have := h I fr_rf
    unfold duelR at this
    rwa [cif_f q] at this
  by_cases h0 : 0 < nM I
  case neg => rw [if_neg (by rw [n0_i hn]; exact h0)]; exact hH (fun q => h0 q.1)
  rw [if_pos (by rw [n0_i hn]; exact h0), h13]
  by_cases x0 : x < 0
  · rw [if_pos x0]; exact hH (fun q => ((in_n (by omega)).mpr q.2.1).1 x0)
  rw [if_neg x0]
  by_cases x1 : nI m - 1 < x
  · rw [if_pos x1]; exact hH (fun q => ((in_n (by omega)).mpr q.2.1).2 x1)
  rw [if_neg x1, if_pos (by rw [n0_i hn]; exact h0)]
  by_cases y0 : y < 0
  · rw [if_pos y0]; exact hH (fun q => ((in_n (by omega)).mpr q.2.2).1 y0)
  rw [if_neg y0]
  by_cases y1 : nI m - 1 < y
  · rw [if_pos y1]; exact hH (fun q => ((in_n (by omega)).mpr q.2.2).2 y1)
  rw [if_neg y1]
  have ox : okBN m x := (in_n (by omega)).mp ⟨x0, x1⟩
  have oy : okBN m y := (in_n (by omega)).mp ⟨y0, y1⟩
  have ex := jn_of ox.1
  have ey := jn_of oy.1
  have hxm : x.toNatClampNeg < m := by have := ox.2; rw [ex, jn_lt (cl_lt _) (by omega)] at this; exact this
  have hym : y.toNatClampNeg < m := by have := oy.2; rw [ey, jn_lt (cl_lt _) (by omega)] at this; exact this
  refine ⟨⟨by trivial, mj_isk_mk _ _⟩, _, ex, _, ey, m, R, ⟨hp, h0, by omega, by omega⟩, fun I2 h2 => ?_⟩
  have h' := h I2 h2
  unfold duelR at h'
  rwa [cif_t ⟨h0, ox, oy⟩] at h'
theorem sdX12_duel : mj_Sd mX12_duel 11 tX12_duel := by
  intro Ω l d hd as M Φ h
  unfold tX12_duel at h
  split at h
  · rename_i z_this x y
    obtain ⟨⟨rfl, hM⟩, m, R, hp, h⟩ := h
    rw [mj_isk_of hM]
    exact mnX12_duel hd x y m R _ _ hp (by
      rw [mj_isk_of hM] at h
      exact h)
  · exact h.elim
def csX12_reply : List (Nat × Nat × Nat × mj_PT) := [(419, 0, 2, mj_rcv 12 tX12_isLaw), (422, 0, 3, mj_rcv 12 tX12_duelOf)]
theorem csX12_reply_ok : mj_Cs mX12_reply 11 csX12_reply := (mj_CsV (D' := 2) (ci := 12) (q := (RX12, TX12, 45)) sdX12_isLaw (Nat.le_of_ble_eq_true rfl) fX12_isLaw rfl rfl iX12_isLaw vX12_isLaw (by decide +kernel) l12_419 (mj_CsV (D' := 10) (ci := 12) (q := (RX12, TX12, 45)) sdX12_duelOf (Nat.le_of_ble_eq_true rfl) fX12_duelOf rfl rfl iX12_duelOf vX12_duelOf (by decide +kernel) l12_422 mj_Cs0))
def cutX12_reply : List (Nat × List Bool) := [(14, [true, true, true, true])]
set_option maxRecDepth 100000 in
set_option maxHeartbeats 4000000 in
theorem inX12_reply {Ω : mj_Om} {l : Launch} {d : Nat} {Φ : Option Value → mj_M → Prop} (hd : 11 ≤ d) (x : Int32) (I : Nat → Nat → Int32) (J : Nat → Nat → Int64)
    (h : ((if (0 : Int32) < (I 91 22) then (if x < (0 : Int32) then (Φ (some (.int (-1 : Int32))) (mk I J)) else (if ((I 91 13) - (1 : Int32)) < x then (Φ (some (.int (-1 : Int32))) (mk I J)) else (mj_G Ω l false mX12_reply d 0 0 Φ 0 0 14 ([some (.ref 91), some (.int x), some (.int (0 : Int32)), some (.int (1 : Int32))], [], (mk I J))))) else (Φ (some (.int (-1 : Int32))) (mk I J))))) :
    mj_Met Ω l false mX12_reply d 0 0 [.ref 91, .int x] (mk I J) Φ := mj_entry (by decide) rfl (fun h => (by cases h)) (Nat.le_of_ble_eq_true rfl) (mj_blk (μ := mX12_reply) (P := pX12_reply) (cut := cutX12_reply) (cs := csX12_reply) dX12_reply csX12_reply_ok hd 32 0 _ h)
set_option maxRecDepth 100000 in
set_option maxHeartbeats 4000000 in
theorem bX12_reply_14 {Ω : mj_Om} {l : Launch} {d : Nat} {Φ : Option Value → mj_M → Prop} (hd : 11 ≤ d) (x1 : Int32) (x2 : Int32) (x3 : Int32) (I : Nat → Nat → Int32) (J : Nat → Nat → Int64)
    (h : ((if x3 < (I 91 13) then ((91 = 91 ∧ mj_isk (mk I J)) ∧ (∃ x823 : Nat, x3 = nI x823 ∧ (∃ y824 : Nat, x1 = nI y824 ∧ (∃ m825 : Nat, (∃ R826 : RF, ((qM I m825 R826 ∧ 0 < nM I ∧ x823 < 4 ∧ y824 < 4) ∧ (∀ I827 : Nat → Nat → Int32, (fr Scr I I827) → ((91 = 91 ∧ mj_isk (mk I827 J)) ∧ (∃ x829 : Nat, x2 = nI x829 ∧ (∃ y830 : Nat, x1 = nI y830 ∧ (∃ m831 : Nat, (∃ R832 : RF, ((qM I827 m831 R832 ∧ 0 < nM I827 ∧ x829 < 4 ∧ y830 < 4) ∧ (∀ I833 : Nat → Nat → Int32, (fr Scr I827 I833) → (if (duelV R832 (lv7 (I827 104) 5) x829 y830) < (duelV R826 (lv7 (I 104) 5) x823 y824) then (mj_G Ω l false mX12_reply d 0 0 Φ 0 0 14 ([some (.ref 91), some (.int x1), some (.int x3), some (.int (x3 + (1 : Int32)))], [], (mk I833 J))) else (mj_G Ω l false mX12_reply d 0 0 Φ 0 0 14 ([some (.ref 91), some (.int x1), some (.int x2), some (.int (x3 + (1 : Int32)))], [], (mk I833 J)))))))))))))))))) else (Φ (some (.int x2)) (mk I J))))) :
    mj_G Ω l false mX12_reply d 0 0 Φ 0 0 14 ([some (.ref 91), some (.int x1), some (.int x2), some (.int x3)], [], mk I J) := mj_blk (μ := mX12_reply) (P := pX12_reply) (cut := cutX12_reply) (cs := csX12_reply) dX12_reply csX12_reply_ok hd 32 14 _ h
def tX12_reply : mj_PT := fun as M Φ => match as with
  | [.ref this, .int x] => ((this = 91 ∧ mj_isk M) ∧ (∃ m : Nat, (∃ R : RF, ((qM M.2.2.1 m R) ∧ (∀ I1 : Nat → Nat → Int32, (fr Scr M.2.2.1 I1) → Φ (some (.int (replyR (nM M.2.2.1) m R (lv7 (M.2.2.1 104) 5) x))) (M.1, M.2.1, I1, M.2.2.2))))))
  | _ => False
set_option maxHeartbeats 4000000 in
theorem mnX12_reply {Ω : mj_Om} {l : Launch} {d : Nat} {Φ : Option Value → mj_M → Prop} (hd : 11 ≤ d) (x : Int32) (m : Nat) (R : RF) (I : Nat → Nat → Int32) (J : Nat → Nat → Int64) (hp : qM I m R) (h : ∀ I1 : Nat → Nat → Int32, (fr Scr I I1) → Φ (some (.int (replyR (nM I) m R (lv7 (I 104) 5) x))) (mk I1 J)) : mj_Met Ω l false mX12_reply d 0 0 [.ref 91, .int x] (mk I J) Φ := by
  refine inX12_reply hd x I J ?_
  obtain ⟨⟨hc, hn⟩, hR, hFF, h25, h26⟩ := id hp
  have h13 : I 91 13 = nI m := by obtain ⟨K, hK, -⟩ := hR; exact hK.1
  have hm4 : m ≤ 4 := by obtain ⟨K, hK, -⟩ := hR; exact hK.2.1
  rw [hc]
  have hH : ¬ (0 < nM I ∧ okBN m x) → Φ (some (.int (-1))) (mk I J) := fun q => by
    have := h I fr_rf
    unfold replyR at this
    rwa [cif_f q] at this
  by_cases h0 : 0 < nM I
  case neg => rw [if_neg (by rw [n0_i hn]; exact h0)]; exact hH (fun q => h0 q.1)
  rw [if_pos (by rw [n0_i hn]; exact h0), h13]
  by_cases x0 : x < 0
  · rw [if_pos x0]; exact hH (fun q => ((in_n (by omega)).mpr q.2).1 x0)
  rw [if_neg x0]
  by_cases x1 : nI m - 1 < x
  · rw [if_pos x1]; exact hH (fun q => ((in_n (by omega)).mpr q.2).2 x1)
  rw [if_neg x1]
  have ox : okBN m x := (in_n (by omega)).mp ⟨x0, x1⟩
  have ex := jn_of ox.1
  have hxm : x.toNatClampNeg < m := by have := ox.2; rw [ex, jn_lt (cl_lt _) (by omega)] at this; exact this
  unfold replyR at h
  rw [cif_t ⟨h0, ox⟩] at h
  have key : ∀ (j r : Nat) (I' : Nat → Nat → Int32), r + j = m → 0 < r → fr Scr I I' → mj_G Ω l false mX12_reply d 0 0 Φ 0 0 14 ([some (.ref 91), some (.int x), some (.int (nI (amx (fun r => duelV R (lv7 (I 104) 5) r x.toNatClampNeg) r))), some (.int (nI r))], [], mk I' J) := by
    intro j
    induction j with
    | zero =>
      intro r I' hr hr0 hfr
      refine bX12_reply_14 hd x (nI (amx (fun r => duelV R (lv7 (I 104) 5) r x.toNatClampNeg) r)) (nI r) I' J ?_
      rw [hfr 91 13 (by unfold Scr; omega), h13, if_neg (by rw [jn_lt (by omega) (by omega)]; omega)]
      obtain rfl : r = m := by omega
      exact h I' hfr
    | succ j ih =>
      intro r I' hr hr0 hfr
      have hab := amx_b (f := fun r => duelV R (lv7 (I 104) 5) r x.toNatClampNeg) r hr0
      refine bX12_reply_14 hd x (nI (amx (fun r => duelV R (lv7 (I 104) 5) r x.toNatClampNeg) r)) (nI r) I' J ?_
      rw [hfr 91 13 (by unfold Scr; omega), h13, if_pos (by rw [jn_lt (by omega) (by omega)]; omega), jn_succ]
      obtain ⟨q1, q2, q3, q4, q5⟩ := qM_q hp hfr
      refine ⟨⟨by trivial, mj_isk_mk _ _⟩, r, rfl, _, ex, m, R, ⟨q1, by omega, by omega, by omega⟩, fun I2 h2 => ?_⟩
      obtain ⟨p1, p2, p3, p4, p5⟩ := qM_q q1 h2
      refine ⟨⟨by trivial, mj_isk_mk _ _⟩, _, rfl, _, ex, m, R, ⟨p1, by omega, by omega, by omega⟩, fun I3 h3 => ?_⟩
      rw [p4, q4]
      have hs := amx_s (f := fun r => duelV R (lv7 (I 104) 5) r x.toNatClampNeg) hr0
      have go := ih (r + 1) I3 (by omega) (by omega) (fr_tr hfr (fr_tr h2 h3))
      rw [hs] at go
      by_cases z : duelV R (lv7 (I 104) 5) (amx (fun r => duelV R (lv7 (I 104) 5) r x.toNatClampNeg) r) x.toNatClampNeg < duelV R (lv7 (I 104) 5) r x.toNatClampNeg
      · rw [if_pos z]; rw [if_pos z] at go; exact go
      · rw [if_neg z]; rw [if_neg z] at go; exact go
  exact key (m - 1) 1 I (by omega) (by decide) fr_rf
theorem sdX12_reply : mj_Sd mX12_reply 11 tX12_reply := by
  intro Ω l d hd as M Φ h
  unfold tX12_reply at h
  split at h
  · rename_i z_this x
    obtain ⟨⟨rfl, hM⟩, m, R, hp, h⟩ := h
    rw [mj_isk_of hM]
    exact mnX12_reply hd x m R _ _ hp (by
      rw [mj_isk_of hM] at h
      exact h)
  · exact h.elim
def csX12_sumOfDuels : List (Nat × Nat × Nat × mj_PT) := [(422, 0, 3, mj_rcv 12 tX12_duelOf)]
theorem csX12_sumOfDuels_ok : mj_Cs mX12_sumOfDuels 11 csX12_sumOfDuels := (mj_CsV (D' := 10) (ci := 12) (q := (RX12, TX12, 45)) sdX12_duelOf (Nat.le_of_ble_eq_true rfl) fX12_duelOf rfl rfl iX12_duelOf vX12_duelOf (by decide +kernel) l12_422 mj_Cs0)
def cutX12_sumOfDuels : List (Nat × List Bool) := [(4, [true, true, true, true])]
set_option maxRecDepth 100000 in
set_option maxHeartbeats 4000000 in
theorem inX12_sumOfDuels {Ω : mj_Om} {l : Launch} {d : Nat} {Φ : Option Value → mj_M → Prop} (hd : 11 ≤ d) (x_ : Int32) (I : Nat → Nat → Int32) (J : Nat → Nat → Int64)
    (h : ((mj_G Ω l false mX12_sumOfDuels d 0 0 Φ 0 0 4 ([some (.ref 91), some (.int x_), some (.int (0 : Int32)), some (.int (0 : Int32))], [], (mk I J))))) :
    mj_Met Ω l false mX12_sumOfDuels d 0 0 [.ref 91, .int x_] (mk I J) Φ := mj_entry (by decide) rfl (fun h => (by cases h)) (Nat.le_of_ble_eq_true rfl) (mj_blk (μ := mX12_sumOfDuels) (P := pX12_sumOfDuels) (cut := cutX12_sumOfDuels) (cs := csX12_sumOfDuels) dX12_sumOfDuels csX12_sumOfDuels_ok hd 20 0 _ h)
set_option maxRecDepth 100000 in
set_option maxHeartbeats 4000000 in
theorem bX12_sumOfDuels_4 {Ω : mj_Om} {l : Launch} {d : Nat} {Φ : Option Value → mj_M → Prop} (hd : 11 ≤ d) (x1 : Int32) (x2 : Int32) (x3 : Int32) (I : Nat → Nat → Int32) (J : Nat → Nat → Int64)
    (h : ((if x3 < (I 91 13) then ((91 = 91 ∧ mj_isk (mk I J)) ∧ (∃ x841 : Nat, x1 = nI x841 ∧ (∃ y842 : Nat, x3 = nI y842 ∧ (∃ m843 : Nat, (∃ R844 : RF, ((qM I m843 R844 ∧ 0 < nM I ∧ x841 < 4 ∧ y842 < 4) ∧ (∀ I845 : Nat → Nat → Int32, (fr Scr I I845) → (mj_G Ω l false mX12_sumOfDuels d 0 0 Φ 0 0 4 ([some (.ref 91), some (.int x1), some (.int (x2 + (duelV R844 (lv7 (I 104) 5) x841 y842))), some (.int (x3 + (1 : Int32)))], [], (mk I845 J)))))))))) else (Φ (some (.int x2)) (mk I J))))) :
    mj_G Ω l false mX12_sumOfDuels d 0 0 Φ 0 0 4 ([some (.ref 91), some (.int x1), some (.int x2), some (.int x3)], [], mk I J) := mj_blk (μ := mX12_sumOfDuels) (P := pX12_sumOfDuels) (cut := cutX12_sumOfDuels) (cs := csX12_sumOfDuels) dX12_sumOfDuels csX12_sumOfDuels_ok hd 20 4 _ h
def tX12_sumOfDuels : mj_PT := fun as M Φ => match as with
  | [.ref this, .int x_] => ((this = 91 ∧ mj_isk M) ∧ (∃ x : Nat, x_ = nI x ∧ (∃ m : Nat, (∃ R : RF, ((qM M.2.2.1 m R ∧ 0 < nM M.2.2.1 ∧ x < 4) ∧ (∀ I1 : Nat → Nat → Int32, (fr Scr M.2.2.1 I1) → Φ (some (.int (dsm R (lv7 (M.2.2.1 104) 5) x m))) (M.1, M.2.1, I1, M.2.2.2)))))))
  | _ => False
theorem mnX12_sumOfDuels {Ω : mj_Om} {l : Launch} {d : Nat} {Φ : Option Value → mj_M → Prop} (hd : 11 ≤ d) (x : Nat) (m : Nat) (R : RF) (I : Nat → Nat → Int32) (J : Nat → Nat → Int64) (hp : qM I m R ∧ 0 < nM I ∧ x < 4) (h : ∀ I1 : Nat → Nat → Int32, (fr Scr I I1) → Φ (some (.int (dsm R (lv7 (I 104) 5) x m))) (mk I1 J)) : mj_Met Ω l false mX12_sumOfDuels d 0 0 [.ref 91, .int (nI x)] (mk I J) Φ := by
  refine inX12_sumOfDuels hd (nI x) I J ?_
  obtain ⟨hq, h0, hx⟩ := hp
  have hR := hq.2.1
  have h13 : I 91 13 = nI m := by obtain ⟨K, hK, -⟩ := hR; exact hK.1
  have hm4 : m ≤ 4 := by obtain ⟨K, hK, -⟩ := hR; exact hK.2.1
  refine lp_inv (σ := Nat → Nat → Int32) (n := m) (G := fun t I' => mj_G Ω l false mX12_sumOfDuels d 0 0 Φ 0 0 4 ([some (.ref 91), some (.int (nI x)), some (.int (dsm R (lv7 (I 104) 5) x t)), some (.int (nI t))], [], mk I' J)) (fun t I' => fr Scr I I') (fun t I' ht hI hk => ?_) (fun I' hI => ?_) m 0 I (by omega) fr_rf
  · refine bX12_sumOfDuels_4 hd (nI x) (dsm R (lv7 (I 104) 5) x t) (nI t) I' J ?_
    rw [hI 91 13 (by unfold Scr; omega), h13, if_pos (by rw [jn_lt (by omega) (by omega)]; omega), jn_succ]
    obtain ⟨q1, q2, q3, q4, q5⟩ := qM_q hq hI
    refine ⟨⟨by trivial, mj_isk_mk _ _⟩, x, rfl, t, rfl, m, R, ⟨q1, by omega, by omega, by omega⟩, fun I2 h2 => ?_⟩
    rw [q4]
    exact hk I2 (fr_tr hI h2)
  · refine bX12_sumOfDuels_4 hd (nI x) (dsm R (lv7 (I 104) 5) x m) (nI m) I' J ?_
    rw [hI 91 13 (by unfold Scr; omega), h13, if_neg (by rw [jn_lt (by omega) (by omega)]; omega)]
    exact h I' hI
theorem sdX12_sumOfDuels : mj_Sd mX12_sumOfDuels 11 tX12_sumOfDuels := by
  intro Ω l d hd as M Φ h
  unfold tX12_sumOfDuels at h
  split at h
  · rename_i z_this x_
    obtain ⟨⟨rfl, hM⟩, x, rfl, m, R, hp, h⟩ := h
    rw [mj_isk_of hM]
    exact mnX12_sumOfDuels hd x m R _ _ hp (by
      rw [mj_isk_of hM] at h
      exact h)
  · exact h.elim
def csX12_strong : List (Nat × Nat × Nat × mj_PT) := [(425, 0, 2, mj_rcv 12 tX12_sumOfDuels)]
theorem csX12_strong_ok : mj_Cs mX12_strong 12 csX12_strong := (mj_CsV (D' := 11) (ci := 12) (q := (RX12, TX12, 45)) sdX12_sumOfDuels (Nat.le_of_ble_eq_true rfl) fX12_sumOfDuels rfl rfl iX12_sumOfDuels vX12_sumOfDuels (by decide +kernel) l12_425 mj_Cs0)
def cutX12_strong : List (Nat × List Bool) := [(20, [true, true, true])]
set_option maxRecDepth 100000 in
set_option maxHeartbeats 4000000 in
theorem inX12_strong {Ω : mj_Om} {l : Launch} {d : Nat} {Φ : Option Value → mj_M → Prop} (hd : 12 ≤ d) (I : Nat → Nat → Int32) (J : Nat → Nat → Int64)
    (h : ((if (I 91 22) = (0 : Int32) then (Φ (some (.int (-1 : Int32))) (mk I J)) else (if (I 91 13) = (0 : Int32) then (Φ (some (.int (-1 : Int32))) (mk I J)) else (mj_G Ω l false mX12_strong d 0 0 Φ 0 0 20 ([some (.ref 91), some (.int (0 : Int32)), some (.int (1 : Int32))], [], (mk I J))))))) :
    mj_Met Ω l false mX12_strong d 0 0 [.ref 91] (mk I J) Φ := mj_entry (by decide) rfl (fun h => (by cases h)) (Nat.le_of_ble_eq_true rfl) (mj_blk (μ := mX12_strong) (P := pX12_strong) (cut := cutX12_strong) (cs := csX12_strong) dX12_strong csX12_strong_ok hd 32 0 _ h)
set_option maxRecDepth 100000 in
set_option maxHeartbeats 4000000 in
theorem bX12_strong_20 {Ω : mj_Om} {l : Launch} {d : Nat} {Φ : Option Value → mj_M → Prop} (hd : 12 ≤ d) (x1 : Int32) (x2 : Int32) (I : Nat → Nat → Int32) (J : Nat → Nat → Int64)
    (h : ((if x2 < (I 91 13) then ((91 = 91 ∧ mj_isk (mk I J)) ∧ (∃ x857 : Nat, x2 = nI x857 ∧ (∃ m858 : Nat, (∃ R859 : RF, ((qM I m858 R859 ∧ 0 < nM I ∧ x857 < 4) ∧ (∀ I860 : Nat → Nat → Int32, (fr Scr I I860) → ((91 = 91 ∧ mj_isk (mk I860 J)) ∧ (∃ x862 : Nat, x1 = nI x862 ∧ (∃ m863 : Nat, (∃ R864 : RF, ((qM I860 m863 R864 ∧ 0 < nM I860 ∧ x862 < 4) ∧ (∀ I865 : Nat → Nat → Int32, (fr Scr I860 I865) → (if (dsm R864 (lv7 (I860 104) 5) x862 m863) < (dsm R859 (lv7 (I 104) 5) x857 m858) then (mj_G Ω l false mX12_strong d 0 0 Φ 0 0 20 ([some (.ref 91), some (.int x2), some (.int (x2 + (1 : Int32)))], [], (mk I865 J))) else (mj_G Ω l false mX12_strong d 0 0 Φ 0 0 20 ([some (.ref 91), some (.int x1), some (.int (x2 + (1 : Int32)))], [], (mk I865 J)))))))))))))))) else (Φ (some (.int x1)) (mk I J))))) :
    mj_G Ω l false mX12_strong d 0 0 Φ 0 0 20 ([some (.ref 91), some (.int x1), some (.int x2)], [], mk I J) := mj_blk (μ := mX12_strong) (P := pX12_strong) (cut := cutX12_strong) (cs := csX12_strong) dX12_strong csX12_strong_ok hd 32 20 _ h
def tX12_strong : mj_PT := fun as M Φ => match as with
  | [.ref this] => ((this = 91 ∧ mj_isk M) ∧ (∃ m : Nat, (∃ R : RF, ((qM M.2.2.1 m R) ∧ (∀ I1 : Nat → Nat → Int32, (fr Scr M.2.2.1 I1) → Φ (some (.int (strongR (nM M.2.2.1) m R (lv7 (M.2.2.1 104) 5)))) (M.1, M.2.1, I1, M.2.2.2))))))
  | _ => False
set_option maxHeartbeats 4000000 in
theorem mnX12_strong {Ω : mj_Om} {l : Launch} {d : Nat} {Φ : Option Value → mj_M → Prop} (hd : 12 ≤ d) (m : Nat) (R : RF) (I : Nat → Nat → Int32) (J : Nat → Nat → Int64) (hp : qM I m R) (h : ∀ I1 : Nat → Nat → Int32, (fr Scr I I1) → Φ (some (.int (strongR (nM I) m R (lv7 (I 104) 5)))) (mk I1 J)) : mj_Met Ω l false mX12_strong d 0 0 [.ref 91] (mk I J) Φ := by
  refine inX12_strong hd I J ?_
  obtain ⟨⟨hc, hn⟩, hR, hFF, h25, h26⟩ := id hp
  have h13 : I 91 13 = nI m := by obtain ⟨K, hK, -⟩ := hR; exact hK.1
  have hm4 : m ≤ 4 := by obtain ⟨K, hK, -⟩ := hR; exact hK.2.1
  rw [hc]
  have hH : ¬ (0 < nM I ∧ 0 < m) → Φ (some (.int (-1))) (mk I J) := fun q => by
    have := h I fr_rf
    unfold strongR at this
    rwa [cif_f q] at this
  by_cases h0 : 0 < nM I
  case neg => rw [if_pos (by rw [show nM I = 0 by omega]; rfl)]; exact hH (fun q => h0 q.1)
  rw [if_neg (by rw [show (0 : Int32) = nI 0 from rfl, jn_eq (by omega) (by omega)]; omega), h13]
  by_cases hm : 0 < m
  case neg => rw [if_pos (by rw [show m = 0 by omega]; rfl)]; exact hH (fun q => hm q.2)
  rw [if_neg (by rw [show (0 : Int32) = nI 0 from rfl, jn_eq (by omega) (by omega)]; omega)]
  unfold strongR at h
  rw [cif_t ⟨h0, hm⟩] at h
  have key : ∀ (j r : Nat) (I' : Nat → Nat → Int32), r + j = m → 0 < r → fr Scr I I' → mj_G Ω l false mX12_strong d 0 0 Φ 0 0 20 ([some (.ref 91), some (.int (nI (amx (fun r => dsm R (lv7 (I 104) 5) r m) r))), some (.int (nI r))], [], mk I' J) := by
    intro j
    induction j with
    | zero =>
      intro r I' hr hr0 hfr
      refine bX12_strong_20 hd (nI (amx (fun r => dsm R (lv7 (I 104) 5) r m) r)) (nI r) I' J ?_
      rw [hfr 91 13 (by unfold Scr; omega), h13, if_neg (by rw [jn_lt (by omega) (by omega)]; omega)]
      obtain rfl : r = m := by omega
      exact h I' hfr
    | succ j ih =>
      intro r I' hr hr0 hfr
      have hab := amx_b (f := fun r => dsm R (lv7 (I 104) 5) r m) r hr0
      refine bX12_strong_20 hd (nI (amx (fun r => dsm R (lv7 (I 104) 5) r m) r)) (nI r) I' J ?_
      rw [hfr 91 13 (by unfold Scr; omega), h13, if_pos (by rw [jn_lt (by omega) (by omega)]; omega), jn_succ]
      obtain ⟨q1, q2, q3, q4, q5⟩ := qM_q hp hfr
      refine ⟨⟨by trivial, mj_isk_mk _ _⟩, r, rfl, m, R, ⟨q1, by omega, by omega⟩, fun I2 h2 => ?_⟩
      obtain ⟨p1, p2, p3, p4, p5⟩ := qM_q q1 h2
      refine ⟨⟨by trivial, mj_isk_mk _ _⟩, _, rfl, m, R, ⟨p1, by omega, by omega⟩, fun I3 h3 => ?_⟩
      rw [p4, q4]
      have hs := amx_s (f := fun r => dsm R (lv7 (I 104) 5) r m) hr0
      have go := ih (r + 1) I3 (by omega) (by omega) (fr_tr hfr (fr_tr h2 h3))
      rw [hs] at go
      by_cases z : dsm R (lv7 (I 104) 5) (amx (fun r => dsm R (lv7 (I 104) 5) r m) r) m < dsm R (lv7 (I 104) 5) r m
      · rw [if_pos z]; rw [if_pos z] at go; exact go
      · rw [if_neg z]; rw [if_neg z] at go; exact go
  exact key (m - 1) 1 I (by omega) (by decide) fr_rf
theorem sdX12_strong : mj_Sd mX12_strong 12 tX12_strong := by
  intro Ω l d hd as M Φ h
  unfold tX12_strong at h
  split at h
  · rename_i z_this
    obtain ⟨⟨rfl, hM⟩, m, R, hp, h⟩ := h
    rw [mj_isk_of hM]
    exact mnX12_strong hd m R _ _ hp (by
      rw [mj_isk_of hM] at h
      exact h)
  · exact h.elim
