/-! ===== thirds: the class's spell (by program, wip/whole/p69.py) ===== -/
theorem cnt_up {p : Nat → Prop} {j : Nat} : ∀ n, j ≤ n → cnt p j ≤ cnt p n := by
  intro n
  induction n with
  | zero => intro h; rw [Nat.le_zero.mp h]; exact Nat.le_refl _
  | succ n ih =>
    intro h
    by_cases q : j = n + 1
    · rw [q]; exact Nat.le_refl _
    · have i := ih (by omega)
      rcases Classical.em (p n) with z | z
      · rw [cnt_y z]; omega
      · rw [cnt_n z]; exact i
def csX9_spell : List (Nat × Nat × Nat × mj_PT) := []
theorem csX9_spell_ok : mj_Cs mX9_spell 1 csX9_spell := mj_Cs0
def cutX9_spell : List (Nat × List Bool) := [(2, [true, true, true, false]), (29, [true, true, true, true]), (42, [true, true, true, true])]
set_option maxRecDepth 100000 in
set_option maxHeartbeats 4000000 in
theorem inX9_spell {Ω : mj_Om} {l : Launch} {d : Nat} {Φ : Option Value → mj_M → Prop} (hd : 1 ≤ d) (r_ : Int32) (I : Nat → Nat → Int32) (J : Nat → Nat → Int64)
    (h : ((mj_G Ω l false mX9_spell d 0 0 Φ 0 0 2 ([some (.ref 82), some (.int r_), some (.int (0 : Int32)), none], [], (mk I J))))) :
    mj_Met Ω l false mX9_spell d 0 0 [.ref 82, .int r_] (mk I J) Φ := mj_entry (by decide) rfl (fun h => (by cases h)) (Nat.le_of_ble_eq_true rfl) (mj_blk (μ := mX9_spell) (P := pX9_spell) (cut := cutX9_spell) (cs := csX9_spell) dX9_spell csX9_spell_ok hd 47 0 _ h)
set_option maxRecDepth 100000 in
set_option maxHeartbeats 4000000 in
theorem bX9_spell_2 {Ω : mj_Om} {l : Launch} {d : Nat} {Φ : Option Value → mj_M → Prop} (hd : 1 ≤ d) (x1 : Int32) (x2 : Int32) (I : Nat → Nat → Int32) (J : Nat → Nat → Int64)
    (h : ((if x2 < (3 : Int32) then (mj_gd (mj_inB x2 3) (mj_G Ω l false mX9_spell d 0 0 Φ 0 0 2 ([some (.ref 82), some (.int x1), some (.int (x2 + (1 : Int32))), none], [], (mk (mj_ui I 84 (x2).toNatClampNeg (0 : Int32)) J)))) else (mj_G Ω l false mX9_spell d 0 0 Φ 0 0 29 ([some (.ref 82), some (.int x1), some (.int x1), some (.int ((I 82 3) - (1 : Int32)))], [], (mk I J)))))) :
    mj_G Ω l false mX9_spell d 0 0 Φ 0 0 2 ([some (.ref 82), some (.int x1), some (.int x2), none], [], mk I J) := mj_blk (μ := mX9_spell) (P := pX9_spell) (cut := cutX9_spell) (cs := csX9_spell) dX9_spell csX9_spell_ok hd 47 2 _ h
set_option maxRecDepth 100000 in
set_option maxHeartbeats 4000000 in
theorem bX9_spell_29 {Ω : mj_Om} {l : Launch} {d : Nat} {Φ : Option Value → mj_M → Prop} (hd : 1 ≤ d) (x1 : Int32) (x2 : Int32) (x3 : Int32) (I : Nat → Nat → Int32) (J : Nat → Nat → Int64)
    (h : ((if x3 < (0 : Int32) then (Φ none (mk I J)) else (mj_gd (mj_inB x3 5) (mj_G Ω l false mX9_spell d 0 0 Φ 0 0 42 ([some (.ref 82), some (.int x1), some (.int x2), some (.int x3)], [], (mk (mj_ui I 83 (x3).toNatClampNeg (x2 - x2 / (3 : Int32) * (3 : Int32))) J))))))) :
    mj_G Ω l false mX9_spell d 0 0 Φ 0 0 29 ([some (.ref 82), some (.int x1), some (.int x2), some (.int x3)], [], mk I J) := mj_blk (μ := mX9_spell) (P := pX9_spell) (cut := cutX9_spell) (cs := csX9_spell) dX9_spell csX9_spell_ok hd 47 29 _ h
set_option maxRecDepth 100000 in
set_option maxHeartbeats 4000000 in
theorem bX9_spell_42 {Ω : mj_Om} {l : Launch} {d : Nat} {Φ : Option Value → mj_M → Prop} (hd : 1 ≤ d) (x1 : Int32) (x2 : Int32) (x3 : Int32) (I : Nat → Nat → Int32) (J : Nat → Nat → Int64)
    (h : ((mj_gd (mj_inB x3 5) (mj_gd (mj_inB (I 83 (x3).toNatClampNeg) 3) (mj_gd (mj_inB (I 83 (x3).toNatClampNeg) 3) (mj_G Ω l false mX9_spell d 0 0 Φ 0 0 29 ([some (.ref 82), some (.int x1), some (.int (x2 / (3 : Int32))), some (.int (x3 + (-1 : Int32)))], [], (mk (mj_ui I 84 ((I 83 (x3).toNatClampNeg)).toNatClampNeg ((I 84 ((I 83 (x3).toNatClampNeg)).toNatClampNeg) + (1 : Int32))) J)))))))) :
    mj_G Ω l false mX9_spell d 0 0 Φ 0 0 42 ([some (.ref 82), some (.int x1), some (.int x2), some (.int x3)], [], mk I J) := mj_blk (μ := mX9_spell) (P := pX9_spell) (cut := cutX9_spell) (cs := csX9_spell) dX9_spell csX9_spell_ok hd 47 42 _ h
def tX9_spell : mj_PT := fun as M Φ => match as with
  | [.ref this, .int r_] => ((this = 82 ∧ mj_isk M) ∧ (∃ r : Nat, r_ = nI r ∧ (∃ n : Nat, ((n ≤ 5 ∧ M.2.2.1 82 3 = nI n ∧ r < 2147483648) ∧ (∀ I1 : Nat → Nat → Int32, ((∀ b, b < n → I1 83 b = nI (dg n r b)) ∧ (∀ t, t < 3 → I1 84 t = nI (cnt (fun b => dg n r b = t) n)) ∧ fr (fun c _ => c = 83 ∨ c = 84) M.2.2.1 I1) → Φ none (M.1, M.2.1, I1, M.2.2.2))))))
  | _ => False
set_option maxHeartbeats 4000000 in
theorem mnX9_spell {Ω : mj_Om} {l : Launch} {d : Nat} {Φ : Option Value → mj_M → Prop} (hd : 1 ≤ d) (r : Nat) (n : Nat) (I : Nat → Nat → Int32) (J : Nat → Nat → Int64) (hp : n ≤ 5 ∧ I 82 3 = nI n ∧ r < 2147483648) (h : ∀ I1 : Nat → Nat → Int32, ((∀ b, b < n → I1 83 b = nI (dg n r b)) ∧ (∀ t, t < 3 → I1 84 t = nI (cnt (fun b => dg n r b = t) n)) ∧ fr (fun c _ => c = 83 ∨ c = 84) I I1) → Φ none (mk I1 J)) : mj_Met Ω l false mX9_spell d 0 0 [.ref 82, .int (nI r)] (mk I J) Φ := by
  refine inX9_spell hd (nI r) I J ?_
  obtain ⟨hn, h3, hr⟩ := hp
  have key : ∀ (j : Nat) (x3 : Int32) (A : Nat → Nat → Int32), j ≤ n → x3 = nI j - 1 → (∀ b, j ≤ b → b < n → A 83 b = nI (dg n r b)) → (∀ t, t < 3 → A 84 t = nI (cnt (fun b => dg n r b = t) n - cnt (fun b => dg n r b = t) j)) → fr (fun c _ => c = 83 ∨ c = 84) I A → mj_G Ω l false mX9_spell d 0 0 Φ 0 0 29 ([some (.ref 82), some (.int (nI r)), some (.int (nI (r / 3 ^ (n - j)))), some (.int x3)], [], mk A J) := by
    intro j
    induction j with
    | zero =>
      intro x3 A hj hx hA hB hfr
      refine bX9_spell_29 hd (nI r) _ x3 A J ?_
      rw [hx, if_pos (by decide)]
      refine h A ⟨fun b hb => hA b (Nat.zero_le b) hb, fun t ht => ?_, hfr⟩
      have c0 : cnt (fun b => dg n r b = t) 0 = 0 := rfl
      rw [hB t ht, c0, Nat.sub_zero]
    | succ j ih =>
      intro x3 A hj hx hA hB hfr
      have hx' : x3 = nI j := by rw [hx, show (1 : Int32) = nI 1 from rfl, jn_sub (by omega)]; rfl
      have hle := Nat.div_le_self r (3 ^ (n - (j + 1)))
      have ed : r / 3 ^ (n - (j + 1)) % 3 = dg n r j := by unfold dg; rw [show n - 1 - j = n - (j + 1) by omega]
      have hb3 := dg_b (n := n) (k := r) (b := j)
      refine bX9_spell_29 hd (nI r) _ x3 A J ?_
      rw [hx', if_neg (show ¬ nI j < 0 by rw [Int32.lt_iff_toInt_lt, jn_toInt (by omega), i_0]; omega)]
      rw [show (3 : Int32) = nI 3 from rfl, jn_rem (by omega) (by omega), ed]
      simp (disch := omega) only [jn_in, jn_cl, gd_dec]
      refine bX9_spell_42 hd (nI r) _ (nI j) _ J ?_
      rw [show (3 : Int32) = nI 3 from rfl, jn_div (by omega) (by omega), dv_s hj]
      simp (disch := omega) only [jn_in, jn_cl, gd_dec, ui_s]
      refine ih _ _ (by omega) (Int32.sub_eq_add_neg _ _).symm (fun b h1 h2 => ?_) (fun t ht => ?_) (fr_ui (fr_ui hfr (Or.inl rfl)) (Or.inr rfl))
      · by_cases z : b = j
        · rw [z, ui_c (by decide), ui_s]
        · rw [ui_c (by decide), ui_k z]; exact hA b (by omega) h2
      · by_cases y : t = dg n r j
        · rw [y, ui_s, ui_c (by decide), hB _ hb3, jn_succ]
          have c1 : cnt (fun b => dg n r b = dg n r j) (j + 1) = cnt (fun b => dg n r b = dg n r j) j + 1 := cnt_y (p := fun b => dg n r b = dg n r j) rfl
          have c2 := cnt_up (p := fun b => dg n r b = dg n r j) n hj
          congr 1
          omega
        · rw [ui_k y, ui_c (by decide), hB t ht]
          have c1 : cnt (fun b => dg n r b = t) (j + 1) = cnt (fun b => dg n r b = t) j := cnt_n (p := fun b => dg n r b = t) (fun w => y w.symm)
          rw [c1]
  refine lp_inv (σ := Nat → Nat → Int32) (n := 3) (G := fun i A => mj_G Ω l false mX9_spell d 0 0 Φ 0 0 2 ([some (.ref 82), some (.int (nI r)), some (.int (nI i)), none], [], mk A J)) (fun i A => (∀ t, t < i → A 84 t = 0) ∧ fr (fun c _ => c = 84) I A) (fun i A hi hI hk => ?_) (fun A hI => ?_) 3 0 I (by omega) ⟨fun t ht => absurd ht (Nat.not_lt_zero t), fr_rf⟩
  · refine bX9_spell_2 hd (nI r) (nI i) A J ?_
    rw [if_pos (show nI i < (3 : Int32) by rw [show (3 : Int32) = nI 3 from rfl, jn_lt (by omega) (by omega)]; exact hi)]
    simp (disch := omega) only [jn_in, jn_cl, gd_dec, jn_succ]
    refine hk _ ⟨fun t ht => ?_, fr_ui hI.2 rfl⟩
    by_cases y : t = i
    · rw [y, ui_s]
    · rw [ui_k y]; exact hI.1 t (by omega)
  · refine bX9_spell_2 hd (nI r) (nI 3) A J ?_
    rw [if_neg (by decide), hI.2 82 3 (by (try dsimp only); omega), h3]
    have k0 := key n _ A (Nat.le_refl _) rfl (fun b h1 h2 => absurd h2 (by omega)) (fun t ht => by rw [Nat.sub_self]; exact hI.1 t ht) (fun c k w => hI.2 c k (fun z => w (Or.inr z)))
    rw [Nat.sub_self, Nat.pow_zero, Nat.div_one] at k0
    exact k0
theorem sdX9_spell : mj_Sd mX9_spell 1 tX9_spell := by
  intro Ω l d hd as M Φ h
  unfold tX9_spell at h
  split at h
  · rename_i z_this r_
    obtain ⟨⟨rfl, hM⟩, r, rfl, n, hp, h⟩ := h
    rw [mj_isk_of hM]
    exact mnX9_spell hd r n _ _ hp (by
      rw [mj_isk_of hM] at h
      exact h)
  · exact h.elim
