/-! ===== sag on both sides (by program, wip/whole/p101.py) ===== -/
theorem na_pos {x : Int32} (h : ¬ x < 0) : x = nI x.toInt.natAbs := by
  have e := jn_of (x := x) (Int32.not_lt.mp h)
  rw [Int32.lt_iff_toInt_lt, i_0] at h
  have e2 : x.toInt = (x.toNatClampNeg : Int) := by
    have := congrArg Int32.toInt e
    rw [jn_toInt (cl_lt x)] at this
    exact this
  rw [e2]
  exact e
theorem na_neg {x : Int32} (h : x < 0) (h1 : -2147483648 < x.toInt) : -x = nI x.toInt.natAbs := by
  rw [Int32.lt_iff_toInt_lt, i_0] at h
  have e : (-x).toInt = -x.toInt := by
    have : -x = 0 - x := by rw [Int32.zero_sub]
    rw [this, i_sub (by rw [i_0]; have := Int32.toInt_lt x; omega), i_0]; omega
  have := na_pos (x := -x) (by rw [Int32.lt_iff_toInt_lt, i_0, e]; omega)
  rw [e, Int.natAbs_neg] at this
  exact this
theorem gcd_pos {a b : Nat} (h : 1 ≤ b) : 1 ≤ Nat.gcd a b := Nat.gcd_pos_of_pos_right a h
theorem gcd_st (a b : Nat) : Nat.gcd b (a % b) = Nat.gcd a b := by
  rw [Nat.gcd_comm a b, Nat.gcd_rec b a, Nat.gcd_comm]
def csX11_greatestCommon : List (Nat × Nat × Nat × mj_PT) := []
theorem csX11_greatestCommon_ok : mj_Cs mX11_greatestCommon 1 csX11_greatestCommon := mj_Cs0
def cutX11_greatestCommon : List (Nat × List Bool) := [(7, [true, true, true, true, true, false])]
set_option maxRecDepth 100000 in
set_option maxHeartbeats 4000000 in
theorem inX11_greatestCommon {Ω : mj_Om} {l : Launch} {d : Nat} {Φ : Option Value → mj_M → Prop} (hd : 1 ≤ d) (a_ : Int32) (b_ : Int32) (I : Nat → Nat → Int32) (J : Nat → Nat → Int64)
    (h : ((mj_G Ω l false mX11_greatestCommon d 0 0 Φ 0 0 7 ([some (.int a_), some (.int b_), some (.int a_), some (.int b_), some (.int (0 : Int32)), none], [], (mk I J))))) :
    mj_Met Ω l false mX11_greatestCommon d 0 0 [.int a_, .int b_] (mk I J) Φ := mj_entry (by decide) rfl (fun h => (by cases h)) (Nat.le_of_ble_eq_true rfl) (mj_blk (μ := mX11_greatestCommon) (P := pX11_greatestCommon) (cut := cutX11_greatestCommon) (cs := csX11_greatestCommon) dX11_greatestCommon csX11_greatestCommon_ok hd 29 0 _ h)
set_option maxRecDepth 100000 in
set_option maxHeartbeats 4000000 in
theorem bX11_greatestCommon_7 {Ω : mj_Om} {l : Launch} {d : Nat} {Φ : Option Value → mj_M → Prop} (hd : 1 ≤ d) (x0 : Int32) (x1 : Int32) (x2 : Int32) (x3 : Int32) (x4 : Int32) (I : Nat → Nat → Int32) (J : Nat → Nat → Int64)
    (h : ((if x4 < (64 : Int32) then (if x3 = (0 : Int32) then (if x2 < (1 : Int32) then (Φ (some (.int (1 : Int32))) (mk I J)) else (Φ (some (.int x2)) (mk I J))) else (mj_gd (!decide (x3 = 0)) (mj_G Ω l false mX11_greatestCommon d 0 0 Φ 0 0 7 ([some (.int x0), some (.int x1), some (.int x3), some (.int (x2 - x2 / x3 * x3)), some (.int (x4 + (1 : Int32))), none], [], (mk I J))))) else (if x2 < (1 : Int32) then (Φ (some (.int (1 : Int32))) (mk I J)) else (Φ (some (.int x2)) (mk I J)))))) :
    mj_G Ω l false mX11_greatestCommon d 0 0 Φ 0 0 7 ([some (.int x0), some (.int x1), some (.int x2), some (.int x3), some (.int x4), none], [], mk I J) := mj_blk (μ := mX11_greatestCommon) (P := pX11_greatestCommon) (cut := cutX11_greatestCommon) (cs := csX11_greatestCommon) dX11_greatestCommon csX11_greatestCommon_ok hd 29 7 _ h
def tX11_greatestCommon : mj_PT := fun as M Φ => match as with
  | [.int a_, .int b_] => ((mj_isk M) ∧ (∃ a : Nat, a_ = nI a ∧ (∃ b : Nat, b_ = nI b ∧ ((1 ≤ b ∧ b ≤ 16 ∧ a < 2147483648) ∧ Φ (some (.int (nI (Nat.gcd a b)))) M))))
  | _ => False
theorem mnX11_greatestCommon {Ω : mj_Om} {l : Launch} {d : Nat} {Φ : Option Value → mj_M → Prop} (hd : 1 ≤ d) (a : Nat) (b : Nat) (I : Nat → Nat → Int32) (J : Nat → Nat → Int64) (hp : 1 ≤ b ∧ b ≤ 16 ∧ a < 2147483648) (h : Φ (some (.int (nI (Nat.gcd a b)))) (mk I J)) : mj_Met Ω l false mX11_greatestCommon d 0 0 [.int (nI a), .int (nI b)] (mk I J) Φ := by
  refine inX11_greatestCommon hd (nI a) (nI b) I J ?_
  obtain ⟨h1, h2, h3⟩ := hp
  have key : ∀ (b' a' i : Nat), a' < 2147483648 → b' < 2147483648 → Nat.gcd a' b' = Nat.gcd a b → i + b' ≤ 17 → mj_G Ω l false mX11_greatestCommon d 0 0 Φ 0 0 7 ([some (.int (nI a)), some (.int (nI b)), some (.int (nI a')), some (.int (nI b')), some (.int (nI i)), none], [], mk I J) := by
    intro b'
    induction b' using Nat.strongRecOn with
    | _ b' ih =>
      intro a' i ha hb hg hi
      refine bX11_greatestCommon_7 hd (nI a) (nI b) (nI a') (nI b') (nI i) I J ?_
      rw [if_pos (show nI i < (64 : Int32) from nlt (b := 64) (by omega) (by omega))]
      by_cases q : b' = 0
      · subst q
        rw [if_pos (show nI 0 = (0 : Int32) from rfl)]
        rw [Nat.gcd_zero_right] at hg
        have g1 := gcd_pos (a := a) h1
        rw [if_neg (show ¬ nI a' < (1 : Int32) from nnl (b := 1) (by omega) ha), hg]
        exact h
      · have qz : ¬ nI b' = 0 := by rw [zero_n (by omega)]; exact q
        rw [if_neg qz, gd_nz qz, jn_rem ha hb, jn_succ]
        have := Nat.mod_lt a' (show b' > 0 by omega)
        exact ih (a' % b') (by omega) b' (i + 1) hb (by omega) (by rw [gcd_st]; exact hg) (by omega)
  exact key b a 0 h3 (by omega) rfl (by omega)
theorem sdX11_greatestCommon : mj_Sd mX11_greatestCommon 1 tX11_greatestCommon := by
  intro Ω l d hd as M Φ h
  unfold tX11_greatestCommon at h
  split at h
  · rename_i a_ b_
    obtain ⟨hM, a, rfl, b, rfl, hp, h⟩ := h
    rw [mj_isk_of hM]
    exact mnX11_greatestCommon hd a b _ _ hp (by
      rw [mj_isk_of hM] at h
      exact h)
  · exact h.elim
/-- how deep the reference's divisor may still go -/
def dvP (w : Nat) (a b : Int32) : Prop := b.toInt.natAbs + w ≤ 17 ∨ (a.toInt.natAbs < b.toInt.natAbs ∧ a.toInt.natAbs + w < 17)
def dvR (a b : Int32) : Int32 := nI (Nat.gcd a.toInt.natAbs b.toInt.natAbs)
theorem dv_ab {a : Int32} (h : -2147483648 < a.toInt) : (if (0 : Int32) ≤ a then a else 0 - a) = nI a.toInt.natAbs := by
  by_cases q : a < 0
  · rw [if_neg (by rw [Int32.le_iff_toInt_le, i_0]; rw [Int32.lt_iff_toInt_lt, i_0] at q; omega), Int32.zero_sub]; exact na_neg q h
  · rw [if_pos (Int32.not_lt.mp q)]; exact na_pos q
theorem dv_rem {a b : Int32} (hb : ¬ b = 0) (h : -2147483648 < a.toInt) : (a - a / b * b).toInt = a.toInt.tmod b.toInt := by
  have hb0 : b.toInt ≠ 0 := fun w => hb (Int32.toInt_inj.mp w)
  have a1 := Int32.toInt_lt a
  have e1 : (a / b).toInt = a.toInt.tdiv b.toInt := by
    rw [Int32.toInt_div]
    have hh : (a.toInt.tdiv b.toInt).natAbs ≤ a.toInt.natAbs := by rw [Int.natAbs_tdiv]; exact Nat.div_le_self _ _
    exact Int.bmod_eq_of_le (by omega) (by omega)
  have tm : a.toInt.tmod b.toInt = a.toInt - a.toInt.tdiv b.toInt * b.toInt := by
    have := Int.tmod_add_mul_tdiv a.toInt b.toInt
    rw [Int.mul_comm] at this
    omega
  have q1 : (a.toInt.tmod b.toInt).natAbs ≤ a.toInt.natAbs := by rw [Int.natAbs_tmod]; exact Nat.mod_le _ _
  have q2 : (a.toInt.tdiv b.toInt * b.toInt).natAbs ≤ a.toInt.natAbs := by rw [Int.natAbs_mul, Int.natAbs_tdiv]; exact Nat.div_mul_le_self _ _
  have e2 : (a / b * b).toInt = a.toInt.tdiv b.toInt * b.toInt := by rw [i_mul (by rw [e1]; omega), e1]
  rw [i_sub (by rw [e2]; omega), e2, tm]
theorem dv_st {w : Nat} {a b : Int32} (hb : ¬ b = 0) (h : -2147483648 < a.toInt) (hp : dvP w a b) : dvP (w + 1) b (a - a / b * b) ∧ dvR b (a - a / b * b) = dvR a b ∧ w ≤ 16 := by
  have hb0 : b.toInt ≠ 0 := fun w => hb (Int32.toInt_inj.mp w)
  unfold dvP at hp ⊢
  unfold dvR
  rw [dv_rem hb h, Int.natAbs_tmod]
  have := Nat.mod_lt a.toInt.natAbs (show b.toInt.natAbs > 0 by omega)
  refine ⟨?_, by rw [gcd_st], by omega⟩
  rcases hp with hp | hp
  · exact Or.inl (by omega)
  · rw [Nat.mod_eq_of_lt hp.1]; exact Or.inl (by omega)
def tX12_divisor (w : Nat) : mj_PT := fun as M Φ => match as with
  | [.int a, .int b] => ((mj_isk M) ∧ ((dvP w a b ∧ -2147483648 < a.toInt ∧ -2147483648 < b.toInt) ∧ Φ (some (.int (dvR a b))) M))
  | _ => False
def csX12_divisor (w : Nat) : List (Nat × Nat × Nat × mj_PT) := [(286, 1, 1, mj_ptab), (398, 1, 2, (tX12_divisor (w + 1)))]
theorem csX12_divisor_ok {w : Nat} (hw : w ≤ 17) (h_X12_divisor : mj_Sd mX12_divisor (30 - (w + 1)) (tX12_divisor (w + 1))) : mj_Cs mX12_divisor (30 - w) (csX12_divisor w) := (mj_Csab (by omega) l12_286 (mj_CsS (D' := (30 - (w + 1))) h_X12_divisor (by omega) fX12_divisor sX12_divisor (by decide +kernel) l12_398 mj_Cs0))
def cutX12_divisor : List (Nat × List Bool) := []
set_option maxRecDepth 100000 in
set_option maxHeartbeats 4000000 in
theorem inX12_divisor {w : Nat} (hcs : mj_Cs mX12_divisor (30 - w) (csX12_divisor w)) {Ω : mj_Om} {l : Launch} {d : Nat} {Φ : Option Value → mj_M → Prop} (hd : (30 - w) ≤ d) (a : Int32) (b : Int32) (I : Nat → Nat → Int32) (J : Nat → Nat → Int64)
    (h : ((if b = (0 : Int32) then (Φ (some (.int (if (0 : Int32) ≤ a then a else 0 - a))) (mk I J)) else (mj_gd (!decide (b = 0)) ((mj_isk (mk I J)) ∧ ((dvP (w + 1) b (a - a / b * b) ∧ -2147483648 < b.toInt ∧ -2147483648 < (a - a / b * b).toInt) ∧ (Φ (some (.int (dvR b (a - a / b * b)))) (mk I J)))))))) :
    mj_Met Ω l false mX12_divisor d 0 0 [.int a, .int b] (mk I J) Φ := mj_entry (by decide) rfl (fun h => (by cases h)) (Nat.le_of_ble_eq_true rfl) (mj_blk (μ := mX12_divisor) (P := pX12_divisor) (cut := cutX12_divisor) (cs := csX12_divisor w) dX12_divisor hcs hd 12 0 _ h)
theorem mnX12_divisor {w : Nat} (hcs : mj_Cs mX12_divisor (30 - w) (csX12_divisor w)) {Ω : mj_Om} {l : Launch} {d : Nat} {Φ : Option Value → mj_M → Prop} (hd : (30 - w) ≤ d) (a : Int32) (b : Int32) (I : Nat → Nat → Int32) (J : Nat → Nat → Int64) (hp : dvP w a b ∧ -2147483648 < a.toInt ∧ -2147483648 < b.toInt) (h : Φ (some (.int (dvR a b))) (mk I J)) : mj_Met Ω l false mX12_divisor d 0 0 [.int a, .int b] (mk I J) Φ := by
  refine inX12_divisor hcs hd a b I J ?_
  obtain ⟨h1, h2, h3⟩ := hp
  by_cases q : b = 0
  · rw [if_pos q, dv_ab h2]
    unfold dvR at h
    rw [q, i_0, Int.natAbs_zero, Nat.gcd_zero_right] at h
    exact h
  · rw [if_neg q, gd_nz q]
    obtain ⟨s1, s2, s3⟩ := dv_st q h2 h1
    refine ⟨mj_isk_mk _ _, ⟨s1, h3, ?_⟩, by rw [s2]; exact h⟩
    rw [dv_rem q h2]
    have : (a.toInt.tmod b.toInt).natAbs ≤ a.toInt.natAbs := by rw [Int.natAbs_tmod]; exact Nat.mod_le _ _
    have := Int32.toInt_lt a
    omega
theorem sdX12_divisor {w : Nat} (hcs : mj_Cs mX12_divisor (30 - w) (csX12_divisor w)) : mj_Sd mX12_divisor (30 - w) (tX12_divisor w) := by
  intro Ω l d hd as M Φ h
  unfold tX12_divisor at h
  split at h
  · rename_i a b
    obtain ⟨hM, hp, h⟩ := h
    rw [mj_isk_of hM]
    exact mnX12_divisor hcs hd a b _ _ hp (by
      rw [mj_isk_of hM] at h
      exact h)
  · exact h.elim
theorem sdX12_divisorE {w : Nat} (hw : 18 ≤ w) {D : Nat} : mj_Sd mX12_divisor D (tX12_divisor w) := by
  intro Ω l d hd as M Φ h
  unfold tX12_divisor at h
  split at h
  · obtain ⟨-, ⟨hp, -⟩, -⟩ := h
    unfold dvP at hp
    omega
  · exact h.elim
theorem sdX12_divisorA : ∀ k w, w + k = 18 → mj_Sd mX12_divisor (30 - w) (tX12_divisor w)
  | 0, w, h => sdX12_divisorE (by omega)
  | k + 1, w, h => sdX12_divisor (csX12_divisor_ok (by omega) (sdX12_divisorA k (w + 1) (by omega)))
theorem sdX12_divisorZ0 : mj_Sd mX12_divisor 30 (tX12_divisor 0) := sdX12_divisorA 18 0 rfl
def tX12_divisorZ : mj_PT := tX12_divisor 0
theorem sdX12_divisorZ : mj_Sd mX12_divisor 30 tX12_divisorZ := sdX12_divisorZ0
theorem sag_a1 (a b c o m : Int32) : a * o - c * m + b * o = (a + b) * o - c * m := by
  rw [Int32.add_mul]
  generalize a * o = A
  generalize b * o = B
  generalize c * m = D
  rw [Int32.sub_eq_add_neg, Int32.sub_eq_add_neg, Int32.add_assoc, Int32.add_assoc, Int32.add_comm (-D)]
theorem sag_a2 (a b c o m : Int32) : a * o - c * m + (-b) * m = a * o - (c + b) * m := by
  rw [Int32.add_mul, Int32.neg_mul]
  generalize a * o = A
  generalize b * m = B
  generalize c * m = D
  rw [Int32.sub_eq_add_neg, Int32.sub_eq_add_neg, Int32.neg_add, Int32.sub_eq_add_neg, Int32.add_assoc]
/-- the backs of the middle third, and of the others -/
def sgM (C : Nat → Int32) (F : Vw) : Nat → Int32
  | 0 => 0
  | k + 1 => if F 0 k * 3 / C 0 = 1 then sgM C F k + F 1 k else sgM C F k
def sgO (C : Nat → Int32) (F : Vw) : Nat → Int32
  | 0 => 0
  | k + 1 => if F 0 k * 3 / C 0 = 1 then sgO C F k else sgO C F k + F 1 k
noncomputable def sgA (n : Nat) (C : Nat → Int32) (F : Vw) : Int32 := sgM C F n * (nI n - thC C F 1 n) - sgO C F n * thC C F 1 n
noncomputable def sgB (n : Nat) (C : Nat → Int32) (F : Vw) : Int32 := thC C F 1 n * (nI n - thC C F 1 n)
noncomputable def sagR (n : Nat) (C : Nat → Int32) (F : Vw) (x : Int32) : Int32 := cif ((x = 0 ∨ x = 1) ∧ ¬ thC C F 1 n = 0 ∧ ¬ nI n - thC C F 1 n = 0) (if x = 0 then sgA n C F / dvR (sgB n C F) (sgA n C F) else sgB n C F / dvR (sgB n C F) (sgA n C F)) (-1000000)
theorem thC_n {C : Nat → Int32} {F : Vw} {t : Int32} : ∀ k, ∃ c, c ≤ k ∧ thC C F t k = nI c
  | 0 => ⟨0, Nat.le_refl 0, rfl⟩
  | k + 1 => by
    obtain ⟨c, h1, h2⟩ := thC_n (C := C) (F := F) (t := t) k
    unfold thC
    split
    · exact ⟨c + 1, by omega, by rw [h2, jn_succ]⟩
    · exact ⟨c, by omega, h2⟩
theorem sag_b {n : Nat} {C : Nat → Int32} {F : Vw} {s : Int32} (h : FOk 19 n C F s) (hn : n ≤ 8) : ∀ k, k ≤ n → (-(1800 * k : Int) ≤ (sgM C F k).toInt ∧ (sgM C F k).toInt ≤ 1800 * k) ∧ (-(1800 * k : Int) ≤ (sgO C F k).toInt ∧ (sgO C F k).toInt ≤ 1800 * k)
  | 0, _ => by unfold sgM sgO; exact ⟨⟨by decide, by decide⟩, ⟨by decide, by decide⟩⟩
  | k + 1, hk => by
    obtain ⟨⟨a1, a2⟩, ⟨b1, b2⟩⟩ := sag_b h hn k (by omega)
    have f := (h.2.2 k (by omega)).2.1
    have s1 := h.2.1
    have c5 := h.1.2.2.2.2.2.1
    unfold sgM sgO
    split
    · rw [i_add (by omega)]; omega
    · rw [i_add (by omega)]; omega
theorem sg_mn : ∀ n, n < 9 → ∀ c, c < n → 1 ≤ c → 1 ≤ c * (n - c) ∧ c * (n - c) ≤ 16 := by decide
theorem jn_subn {a b : Nat} (h : b ≤ a) : nI a - nI b = nI (a - b) := by
  have : nI a = nI (a - b) + nI b := by rw [jn_add]; congr 1; omega
  rw [this, Int32.add_sub_cancel]
theorem jn_mul' (a b : Nat) : nI a * nI b = nI (a * b) := (Int32.ofNat_mul a b).symm
theorem sg_all {n : Nat} {C : Nat → Int32} {F : Vw} {s : Int32} (h : FOk 19 n C F s) (hn : n ≤ 8) (h1 : ¬ thC C F 1 n = 0) (h2 : ¬ nI n - thC C F 1 n = 0) : (∃ b, sgB n C F = nI b ∧ 1 ≤ b ∧ b ≤ 16 ∧ (sgB n C F).toInt = b) ∧ -1000000 ≤ (sgA n C F).toInt ∧ (sgA n C F).toInt ≤ 1000000 := by
  obtain ⟨c, c1, c2⟩ := thC_n (C := C) (F := F) (t := 1) n
  obtain ⟨⟨a1, a2⟩, ⟨b1, b2⟩⟩ := sag_b h hn n (Nat.le_refl n)
  unfold sgB sgA
  rw [c2] at h1 h2 ⊢
  rw [jn_subn c1] at h2 ⊢
  rw [zero_n (by omega)] at h1 h2
  have e := sg_mn n (by omega) c (by omega) (by omega)
  have tc : (nI c).toInt = (c : Int) := jn_toInt (by omega)
  have to : (nI (n - c)).toInt = ((n - c : Nat) : Int) := jn_toInt (by omega)
  refine ⟨⟨c * (n - c), jn_mul' _ _, e.1, e.2, by rw [jn_mul', jn_toInt (by omega)]⟩, ?_⟩
  have m1 : ∀ x : Int, -14400 ≤ x ∧ x ≤ 14400 → ∀ y : Nat, y ≤ 8 → -200000 ≤ x * (y : Int) ∧ x * (y : Int) ≤ 200000 := by
    intro x hx y hy
    have : y = 0 ∨ y = 1 ∨ y = 2 ∨ y = 3 ∨ y = 4 ∨ y = 5 ∨ y = 6 ∨ y = 7 ∨ y = 8 := by omega
    rcases this with rfl | rfl | rfl | rfl | rfl | rfl | rfl | rfl | rfl <;> omega
  have p1 := m1 (sgM C F n).toInt (by omega) (n - c) (by omega)
  have p2 := m1 (sgO C F n).toInt (by omega) c (by omega)
  have q1 : (sgM C F n * nI (n - c)).toInt = (sgM C F n).toInt * ((n - c : Nat) : Int) := by rw [i_mul (by rw [to]; omega), to]
  have q2 : (sgO C F n * nI c).toInt = (sgO C F n).toInt * (c : Int) := by rw [i_mul (by rw [tc]; omega), tc]
  rw [i_sub (by rw [q1, q2]; omega), q1, q2]
  omega
def csX11_sag : List (Nat × Nat × Nat × mj_PT) := [(204, 0, 1, mj_rcv 11 tX11_hasWater), (254, 1, 1, tX11_isChoice), (268, 0, 2, mj_rcv 11 tX11_boatsIn), (271, 0, 2, mj_rcv 1 tX1_thirdOf), (274, 1, 2, tX11_greatestCommon)]
theorem csX11_sag_ok : mj_Cs mX11_sag 3 csX11_sag := (mj_CsV (D' := 1) (ci := 11) (q := (RX11, TX11, 18)) sdX11_hasWater (Nat.le_of_ble_eq_true rfl) fX11_hasWater rfl rfl iX11_hasWater vX11_hasWater (by decide +kernel) l11_204 (mj_CsS (D' := 1) sdX11_isChoice (Nat.le_of_ble_eq_true rfl) fX11_isChoice sX11_isChoice (by decide +kernel) l11_254 (mj_CsV (D' := 2) (ci := 11) (q := (RX11, TX11, 18)) sdX11_boatsIn (Nat.le_of_ble_eq_true rfl) fX11_boatsIn rfl rfl iX11_boatsIn vX11_boatsIn (by decide +kernel) l11_268 (mj_CsV (D' := 1) (ci := 1) (q := (RX1, TX1, 1)) sdX1_thirdOf (Nat.le_of_ble_eq_true rfl) fX1_thirdOf rfl rfl iX1_thirdOf vX1_thirdOf (by decide +kernel) l11_271 (mj_CsS (D' := 1) sdX11_greatestCommon (Nat.le_of_ble_eq_true rfl) fX11_greatestCommon sX11_greatestCommon (by decide +kernel) l11_274 mj_Cs0)))))
def cutX11_sag : List (Nat × List Bool) := [(50, [true, true, true, true, true, true, false])]
def pX11_sag_0 : List (Nat × Instr × Nat) := [(0, .aload_n 0, 1), (1, .invokevirtual 204, 3), (4, .ifCond .eq 10, 3), (7, .iload_n 1, 1), (8, .invokestatic 254, 3), (11, .ifCond .ne 6, 3), (14, .ldc 250, 2), (16, .ireturn, 1), (17, .aload_n 0, 1), (18, .iconst 1, 1), (19, .invokevirtual 268, 3), (22, .istore_n 2, 1), (23, .aload_n 0, 1), (24, .getfield 56, 3), (27, .getfield 145, 3), (30, .iload_n 2, 1), (31, .isub, 1), (32, .istore_n 3, 1), (33, .iload_n 2, 1), (34, .ifCond .eq 7, 3), (37, .iload_n 3, 1), (38, .ifCond .ne 6, 3), (41, .ldc 250, 2), (43, .ireturn, 1), (44, .iconst 0, 1), (45, .istore 4, 2), (47, .iconst 0, 1), (48, .istore 5, 2), (50, .iload 5, 2)]
set_option maxRecDepth 100000 in
theorem dX11_sag_0 : mj_pd cX11_sag pX11_sag_0 := mj_pdB (by decide +kernel)
set_option maxRecDepth 100000 in
set_option maxHeartbeats 4000000 in
theorem inX11_sag {Ω : mj_Om} {l : Launch} {d : Nat} {Φ : Option Value → mj_M → Prop} (hd : 3 ≤ d) (x : Int32) (I : Nat → Nat → Int32) (J : Nat → Nat → Int64)
    (h : ((if (0 : Int32) < (I 39 8) then (if x = (0 : Int32) then ((0 = 0 ∧ mj_isk (mk I J)) ∧ ((okF I 39 ∧ lineOk (lv7 (I 27))) ∧ (if (thC (lv7 (I 27)) (VF I 39) (1 : Int32) (nF I 39)) = (0 : Int32) then (Φ (some (.int (-1000000 : Int32))) (mk I J)) else (if ((I 39 8) - (thC (lv7 (I 27)) (VF I 39) (1 : Int32) (nF I 39))) = (0 : Int32) then (Φ (some (.int (-1000000 : Int32))) (mk I J)) else (mj_G Ω l false mX11_sag d 0 0 Φ 0 0 50 ([some (.ref 0), some (.int x), some (.int (thC (lv7 (I 27)) (VF I 39) (1 : Int32) (nF I 39))), some (.int ((I 39 8) - (thC (lv7 (I 27)) (VF I 39) (1 : Int32) (nF I 39)))), some (.int (0 : Int32)), some (.int (0 : Int32)), none], [], (mk I J))))))) else (if x = (1 : Int32) then ((0 = 0 ∧ mj_isk (mk I J)) ∧ ((okF I 39 ∧ lineOk (lv7 (I 27))) ∧ (if (thC (lv7 (I 27)) (VF I 39) (1 : Int32) (nF I 39)) = (0 : Int32) then (Φ (some (.int (-1000000 : Int32))) (mk I J)) else (if ((I 39 8) - (thC (lv7 (I 27)) (VF I 39) (1 : Int32) (nF I 39))) = (0 : Int32) then (Φ (some (.int (-1000000 : Int32))) (mk I J)) else (mj_G Ω l false mX11_sag d 0 0 Φ 0 0 50 ([some (.ref 0), some (.int x), some (.int (thC (lv7 (I 27)) (VF I 39) (1 : Int32) (nF I 39))), some (.int ((I 39 8) - (thC (lv7 (I 27)) (VF I 39) (1 : Int32) (nF I 39)))), some (.int (0 : Int32)), some (.int (0 : Int32)), none], [], (mk I J))))))) else (Φ (some (.int (-1000000 : Int32))) (mk I J)))) else (Φ (some (.int (-1000000 : Int32))) (mk I J))))) :
    mj_Met Ω l false mX11_sag d 0 0 [.ref 0, .int x] (mk I J) Φ := mj_entry (by decide) rfl (fun h => (by cases h)) (Nat.le_of_ble_eq_true rfl) (mj_blk (μ := mX11_sag) (P := pX11_sag_0) (cut := cutX11_sag) (cs := csX11_sag) dX11_sag_0 csX11_sag_ok hd 30 0 _ h)
def pX11_sag_50 : List (Nat × Instr × Nat) := [(50, .iload 5, 2), (52, .aload_n 0, 1), (53, .getfield 56, 3), (56, .getfield 145, 3), (59, .if_icmp .ge 63, 3), (62, .iload 4, 2), (64, .aload_n 0, 1), (65, .getfield 42, 3), (68, .aload_n 0, 1), (69, .getfield 56, 3), (72, .getfield 167, 3), (75, .iload 5, 2), (77, .iaload, 1), (78, .invokevirtual 271, 3), (81, .iconst 1, 1), (82, .if_icmp .ne 18, 3), (85, .aload_n 0, 1), (86, .getfield 56, 3), (89, .getfield 170, 3), (92, .iload 5, 2), (94, .iaload, 1), (95, .iload_n 3, 1), (96, .imul, 1), (97, .goto 16, 3), (100, .aload_n 0, 1), (101, .getfield 56, 3), (104, .getfield 170, 3), (107, .iload 5, 2), (109, .iaload, 1), (110, .ineg, 1), (111, .iload_n 2, 1), (112, .imul, 1), (113, .iadd, 1), (114, .istore 4, 2), (116, .iinc 5 1, 3), (119, .goto (-69), 3), (122, .iload_n 2, 1), (123, .iload_n 3, 1), (124, .imul, 1), (125, .istore 5, 2), (127, .iload 4, 2), (129, .ifCond .ge 9, 3), (132, .iload 4, 2), (134, .ineg, 1), (135, .goto 5, 3), (138, .iload 4, 2), (140, .iload 5, 2), (142, .invokestatic 274, 3), (145, .istore 6, 2), (147, .iload_n 1, 1), (148, .ifCond .ne 8, 3), (151, .iload 4, 2), (153, .goto 5, 3), (156, .iload 5, 2), (158, .iload 6, 2), (160, .idiv, 1), (161, .ireturn, 1)]
set_option maxRecDepth 100000 in
theorem dX11_sag_50 : mj_pd cX11_sag pX11_sag_50 := mj_pdB (by decide +kernel)
set_option maxRecDepth 100000 in
set_option maxHeartbeats 4000000 in
theorem bX11_sag_50 {Ω : mj_Om} {l : Launch} {d : Nat} {Φ : Option Value → mj_M → Prop} (hd : 3 ≤ d) (x1 : Int32) (x2 : Int32) (x3 : Int32) (x4 : Int32) (x5 : Int32) (I : Nat → Nat → Int32) (J : Nat → Nat → Int64)
    (h : ((if x5 < (I 39 8) then (mj_gd (mj_inB x5 8) (if (I 27 0) < (1 : Int32) then (mj_gd (mj_inB x5 8) (mj_G Ω l false mX11_sag d 0 0 Φ 0 0 50 ([some (.ref 0), some (.int x1), some (.int x2), some (.int x3), some (.int (x4 + ((-(I 41 (x5).toNatClampNeg)) * x2))), some (.int (x5 + (1 : Int32))), none], [], (mk I J)))) else (mj_gd (!decide ((I 27 0) = 0)) (if (((I 40 (x5).toNatClampNeg) * (3 : Int32)) / (I 27 0)) = (1 : Int32) then (mj_gd (mj_inB x5 8) (mj_G Ω l false mX11_sag d 0 0 Φ 0 0 50 ([some (.ref 0), some (.int x1), some (.int x2), some (.int x3), some (.int (x4 + ((I 41 (x5).toNatClampNeg) * x3))), some (.int (x5 + (1 : Int32))), none], [], (mk I J)))) else (mj_gd (mj_inB x5 8) (mj_G Ω l false mX11_sag d 0 0 Φ 0 0 50 ([some (.ref 0), some (.int x1), some (.int x2), some (.int x3), some (.int (x4 + ((-(I 41 (x5).toNatClampNeg)) * x2))), some (.int (x5 + (1 : Int32))), none], [], (mk I J)))))))) else (if x4 < (0 : Int32) then ((mj_isk (mk I J)) ∧ (∃ a3393 : Nat, (-x4) = nI a3393 ∧ (∃ b3394 : Nat, (x2 * x3) = nI b3394 ∧ ((1 ≤ b3394 ∧ b3394 ≤ 16 ∧ a3393 < 2147483648) ∧ (if x1 = (0 : Int32) then (mj_gd (!decide ((nI (Nat.gcd a3393 b3394)) = 0)) (Φ (some (.int (x4 / (nI (Nat.gcd a3393 b3394))))) (mk I J))) else (mj_gd (!decide ((nI (Nat.gcd a3393 b3394)) = 0)) (Φ (some (.int ((x2 * x3) / (nI (Nat.gcd a3393 b3394))))) (mk I J)))))))) else ((mj_isk (mk I J)) ∧ (∃ a3397 : Nat, x4 = nI a3397 ∧ (∃ b3398 : Nat, (x2 * x3) = nI b3398 ∧ ((1 ≤ b3398 ∧ b3398 ≤ 16 ∧ a3397 < 2147483648) ∧ (if x1 = (0 : Int32) then (mj_gd (!decide ((nI (Nat.gcd a3397 b3398)) = 0)) (Φ (some (.int (x4 / (nI (Nat.gcd a3397 b3398))))) (mk I J))) else (mj_gd (!decide ((nI (Nat.gcd a3397 b3398)) = 0)) (Φ (some (.int ((x2 * x3) / (nI (Nat.gcd a3397 b3398))))) (mk I J)))))))))))) :
    mj_G Ω l false mX11_sag d 0 0 Φ 0 0 50 ([some (.ref 0), some (.int x1), some (.int x2), some (.int x3), some (.int x4), some (.int x5), none], [], mk I J) := mj_blk (μ := mX11_sag) (P := pX11_sag_50) (cut := cutX11_sag) (cs := csX11_sag) dX11_sag_50 csX11_sag_ok hd 58 50 _ h
def tX11_sag : mj_PT := fun as M Φ => match as with
  | [.ref this, .int x] => ((this = 0 ∧ mj_isk M) ∧ (∃ m : Nat, (∃ R : RF, ((qC M.2.2.1 m R) ∧ Φ (some (.int (sagR (nF M.2.2.1 39) (lv7 (M.2.2.1 27)) (VF M.2.2.1 39) x))) M))))
  | _ => False
set_option maxHeartbeats 4000000 in
theorem mnX11_sag {Ω : mj_Om} {l : Launch} {d : Nat} {Φ : Option Value → mj_M → Prop} (hd : 3 ≤ d) (x : Int32) (m : Nat) (R : RF) (I : Nat → Nat → Int32) (J : Nat → Nat → Int64) (hp : qC I m R) (h : Φ (some (.int (sagR (nF I 39) (lv7 (I 27)) (VF I 39) x))) (mk I J)) : mj_Met Ω l false mX11_sag d 0 0 [.ref 0, .int x] (mk I J) Φ := by
  refine inX11_sag hd x I J ?_
  obtain ⟨⟨hc, hn⟩, hR, hFF⟩ := id hp
  have hH : ¬ ((x = 0 ∨ x = 1) ∧ ¬ thC (lv7 (I 27)) (VF I 39) 1 (nF I 39) = 0 ∧ ¬ nI (nF I 39) - thC (lv7 (I 27)) (VF I 39) 1 (nF I 39) = 0) → Φ (some (.int (-1000000))) (mk I J) := fun q => by
    have := h
    unfold sagR at this
    rwa [cif_f q] at this
  rw [hc]
  by_cases q : (0 : Int32) < nI (nF I 39)
  case neg =>
    rw [if_neg q]
    rw [pos_n hn] at q
    refine hH (fun w => w.2.1 ?_)
    rw [show nF I 39 = 0 by omega]
    rfl
  rw [if_pos q]
  rw [pos_n hn] at q
  have hF := hFF q
  obtain ⟨l1, l2⟩ := l0_nz hF.1
  have e0 : I 27 0 = lv7 (I 27) 0 := (lv7_at (by decide)).symm
  have key : (x = 0 ∨ x = 1) → ((0 = 0 ∧ mj_isk (mk I J)) ∧ ((okF I 39 ∧ lineOk (lv7 (I 27))) ∧ (if (thC (lv7 (I 27)) (VF I 39) (1 : Int32) (nF I 39)) = (0 : Int32) then (Φ (some (.int (-1000000 : Int32))) (mk I J)) else (if (nI (nF I 39) - (thC (lv7 (I 27)) (VF I 39) (1 : Int32) (nF I 39))) = (0 : Int32) then (Φ (some (.int (-1000000 : Int32))) (mk I J)) else (mj_G Ω l false mX11_sag d 0 0 Φ 0 0 50 ([some (.ref 0), some (.int x), some (.int (thC (lv7 (I 27)) (VF I 39) 1 (nF I 39))), some (.int (nI (nF I 39) - thC (lv7 (I 27)) (VF I 39) 1 (nF I 39))), some (.int 0), some (.int 0), none], [], mk I J)))))) := fun hx => by
    refine ⟨⟨rfl, mj_isk_mk _ _⟩, ⟨⟨hc, hn⟩, hF.1⟩, ?_⟩
    by_cases q1 : thC (lv7 (I 27)) (VF I 39) 1 (nF I 39) = 0
    · rw [if_pos q1]; exact hH (fun w => w.2.1 q1)
    rw [if_neg q1]
    by_cases q2 : nI (nF I 39) - thC (lv7 (I 27)) (VF I 39) 1 (nF I 39) = 0
    · rw [if_pos q2]; exact hH (fun w => w.2.2 q2)
    rw [if_neg q2]
    obtain ⟨⟨b, eb, hb1, hb2, hbi⟩, ha1, ha2⟩ := sg_all hF hn q1 q2
    unfold sagR at h
    rw [cif_t ⟨hx, q1, q2⟩] at h
    refine lp_inv (σ := Int32) (n := nF I 39) (G := fun i v => mj_G Ω l false mX11_sag d 0 0 Φ 0 0 50 ([some (.ref 0), some (.int x), some (.int (thC (lv7 (I 27)) (VF I 39) 1 (nF I 39))), some (.int (nI (nF I 39) - thC (lv7 (I 27)) (VF I 39) 1 (nF I 39))), some (.int v), some (.int (nI i)), none], [], mk I J)) (fun i v => v = sgM (lv7 (I 27)) (VF I 39) i * (nI (nF I 39) - thC (lv7 (I 27)) (VF I 39) 1 (nF I 39)) - sgO (lv7 (I 27)) (VF I 39) i * thC (lv7 (I 27)) (VF I 39) 1 (nF I 39)) (fun i v hi hI hk => ?_) (fun v hI => ?_) (nF I 39) 0 0 (by omega) ?_
    · refine bX11_sag_50 hd x _ _ v (nI i) I J ?_
      rw [hc, if_pos (nlt hi (by omega))]
      simp (disch := omega) only [jn_in, jn_cl, gd_dec, jn_succ]
      rw [e0, if_neg l1, gd_nz l2, ← VF_0 (I := I) (f := 39) (b := i) hi, ← VF_1 (I := I) (f := 39) (b := i) hi]
      split
      · rename_i z
        refine hk _ ?_
        rw [hI, sgM, sgO, if_pos z, if_pos z, sag_a1]
      · rename_i z
        refine hk _ ?_
        rw [hI, sgM, sgO, if_neg z, if_neg z, sag_a2]
    · refine bX11_sag_50 hd x _ _ v (nI (nF I 39)) I J ?_
      rw [hc, if_neg Int32.lt_irrefl]
      have hv : v = sgA (nF I 39) (lv7 (I 27)) (VF I 39) := hI
      have eB : thC (lv7 (I 27)) (VF I 39) 1 (nF I 39) * (nI (nF I 39) - thC (lv7 (I 27)) (VF I 39) 1 (nF I 39)) = sgB (nF I 39) (lv7 (I 27)) (VF I 39) := rfl
      rw [eB]
      generalize sgB (nF I 39) (lv7 (I 27)) (VF I 39) = B at *
      subst hv
      generalize sgA (nF I 39) (lv7 (I 27)) (VF I 39) = A at *
      have g1 := gcd_pos (a := A.toInt.natAbs) hb1
      have g2 : Nat.gcd A.toInt.natAbs b ≤ b := Nat.le_of_dvd (by omega) (Nat.gcd_dvd_right _ _)
      have gz : ¬ nI (Nat.gcd A.toInt.natAbs b) = 0 := by rw [zero_n (by omega)]; omega
      have eg : dvR B A = nI (Nat.gcd A.toInt.natAbs b) := by unfold dvR; rw [hbi, Nat.gcd_comm]; rfl
      rw [eg] at h
      by_cases z : A < 0
      · rw [if_pos z]
        refine ⟨mj_isk_mk _ _, A.toInt.natAbs, na_neg z (by omega), b, eb, ⟨hb1, hb2, by omega⟩, ?_⟩
        by_cases y : x = 0
        · rw [if_pos y] at h ⊢; rw [gd_nz gz]; exact h
        · rw [if_neg y] at h ⊢; rw [gd_nz gz]; exact h
      · rw [if_neg z]
        refine ⟨mj_isk_mk _ _, A.toInt.natAbs, na_pos z, b, eb, ⟨hb1, hb2, by omega⟩, ?_⟩
        by_cases y : x = 0
        · rw [if_pos y] at h ⊢; rw [gd_nz gz]; exact h
        · rw [if_neg y] at h ⊢; rw [gd_nz gz]; exact h
    · show (0 : Int32) = 0 * _ - 0 * _
      rw [Int32.zero_mul, Int32.zero_mul, Int32.sub_zero]
  by_cases x0 : x = 0
  · rw [if_pos x0]; exact key (Or.inl x0)
  rw [if_neg x0]
  by_cases x1 : x = 1
  · rw [if_pos x1]; exact key (Or.inr x1)
  rw [if_neg x1]
  exact hH (fun w => w.1.elim x0 x1)
theorem sdX11_sag : mj_Sd mX11_sag 3 tX11_sag := by
  intro Ω l d hd as M Φ h
  unfold tX11_sag at h
  split at h
  · rename_i z_this x
    obtain ⟨⟨rfl, hM⟩, m, R, hp, h⟩ := h
    rw [mj_isk_of hM]
    exact mnX11_sag hd x m R _ _ hp (by
      rw [mj_isk_of hM] at h
      exact h)
  · exact h.elim
def csX12_sag : List (Nat × Nat × Nat × mj_PT) := [(214, 1, 3, tX12_in), (283, 0, 3, mj_rcv 12 tX12_of), (398, 1, 2, tX12_divisorZ), (401, 0, 2, mj_rcv 12 tX12_thirdOf)]
theorem csX12_sag_ok : mj_Cs mX12_sag 31 csX12_sag := (mj_CsS (D' := 1) sdX12_in (Nat.le_of_ble_eq_true rfl) fX12_in sX12_in (by decide +kernel) l12_214 (mj_CsV (D' := 1) (ci := 12) (q := (RX12, TX12, 45)) sdX12_of (Nat.le_of_ble_eq_true rfl) fX12_of rfl rfl iX12_of vX12_of (by decide +kernel) l12_283 (mj_CsS (D' := 30) sdX12_divisorZ (Nat.le_of_ble_eq_true rfl) fX12_divisor sX12_divisor (by decide +kernel) l12_398 (mj_CsV (D' := 2) (ci := 12) (q := (RX12, TX12, 45)) sdX12_thirdOf (Nat.le_of_ble_eq_true rfl) fX12_thirdOf rfl rfl iX12_thirdOf vX12_thirdOf (by decide +kernel) l12_401 mj_Cs0))))
def cutX12_sag : List (Nat × List Bool) := [(10, [true, true, true, true, true, true, false, false, false])]
def pX12_sag_0 : List (Nat × Instr × Nat) := [(0, .iconst 0, 1), (1, .istore_n 2, 1), (2, .iconst 0, 1), (3, .istore_n 3, 1), (4, .iconst 0, 1), (5, .istore 4, 2), (7, .iconst 0, 1), (8, .istore 5, 2), (10, .iload 5, 2)]
set_option maxRecDepth 100000 in
theorem dX12_sag_0 : mj_pd cX12_sag pX12_sag_0 := mj_pdB (by decide +kernel)
set_option maxRecDepth 100000 in
set_option maxHeartbeats 4000000 in
theorem inX12_sag {Ω : mj_Om} {l : Launch} {d : Nat} {Φ : Option Value → mj_M → Prop} (hd : 31 ≤ d) (x : Int32) (I : Nat → Nat → Int32) (J : Nat → Nat → Int64)
    (h : ((mj_G Ω l false mX12_sag d 0 0 Φ 0 0 10 ([some (.ref 91), some (.int x), some (.int (0 : Int32)), some (.int (0 : Int32)), some (.int (0 : Int32)), some (.int (0 : Int32)), none, none, none], [], (mk I J))))) :
    mj_Met Ω l false mX12_sag d 0 0 [.ref 91, .int x] (mk I J) Φ := mj_entry (by decide) rfl (fun h => (by cases h)) (Nat.le_of_ble_eq_true rfl) (mj_blk (μ := mX12_sag) (P := pX12_sag_0) (cut := cutX12_sag) (cs := csX12_sag) dX12_sag_0 csX12_sag_ok hd 10 0 _ h)
def pX12_sag_10 : List (Nat × Instr × Nat) := [(10, .iload 5, 2), (12, .aload_n 0, 1), (13, .getfield 255, 3), (16, .if_icmp .ge 79, 3), (19, .aload_n 0, 1), (20, .iload 5, 2), (22, .invokevirtual 401, 3), (25, .iconst 1, 1), (26, .if_icmp .ne 7, 3), (29, .iconst 1, 1), (30, .goto 4, 3), (33, .iconst 0, 1), (34, .istore 6, 2), (36, .iload_n 2, 1), (37, .iload 6, 2), (39, .ifCond .eq 13, 3), (42, .aload_n 0, 1), (43, .iload 5, 2), (45, .iconst 1, 1), (46, .invokevirtual 283, 3), (49, .goto 4, 3), (52, .iconst 0, 1), (53, .iadd, 1), (54, .istore_n 2, 1), (55, .iload_n 3, 1), (56, .iload 6, 2), (58, .ifCond .eq 7, 3), (61, .iconst 1, 1), (62, .goto 4, 3), (65, .iconst 0, 1), (66, .iadd, 1), (67, .istore_n 3, 1), (68, .iload 4, 2), (70, .iload 6, 2), (72, .ifCond .eq 7, 3), (75, .iconst 0, 1), (76, .goto 10, 3), (79, .aload_n 0, 1), (80, .iload 5, 2), (82, .iconst 1, 1), (83, .invokevirtual 283, 3), (86, .iadd, 1), (87, .istore 4, 2), (89, .iinc 5 1, 3), (92, .goto (-82), 3), (95, .aload_n 0, 1), (96, .getfield 255, 3), (99, .iload_n 3, 1), (100, .isub, 1), (101, .istore 5, 2), (103, .iload_n 3, 1), (104, .ifCond .eq 17, 3), (107, .iload 5, 2), (109, .ifCond .eq 12, 3), (112, .iload_n 1, 1), (113, .iconst 0, 1), (114, .iconst 1, 1), (115, .invokestatic 214, 3), (118, .ifCond .ne 7, 3), (121, .ldc_w 381, 3), (124, .ireturn, 1), (125, .iload_n 2, 1), (126, .iload 5, 2), (128, .imul, 1), (129, .iload 4, 2), (131, .iload_n 3, 1), (132, .imul, 1), (133, .isub, 1), (134, .istore 6, 2), (136, .iload_n 3, 1), (137, .iload 5, 2), (139, .imul, 1), (140, .istore 7, 2), (142, .iload 7, 2), (144, .iload 6, 2), (146, .invokestatic 398, 3), (149, .istore 8, 2), (151, .iload_n 1, 1), (152, .ifCond .ne 11, 3), (155, .iload 6, 2), (157, .iload 8, 2), (159, .idiv, 1), (160, .goto 8, 3), (163, .iload 7, 2), (165, .iload 8, 2), (167, .idiv, 1), (168, .ireturn, 1)]
set_option maxRecDepth 100000 in
theorem dX12_sag_10 : mj_pd cX12_sag pX12_sag_10 := mj_pdB (by decide +kernel)
set_option maxRecDepth 100000 in
set_option maxHeartbeats 4000000 in
theorem bX12_sag_10 {Ω : mj_Om} {l : Launch} {d : Nat} {Φ : Option Value → mj_M → Prop} (hd : 31 ≤ d) (x1 : Int32) (x2 : Int32) (x3 : Int32) (x4 : Int32) (x5 : Int32) (I : Nat → Nat → Int32) (J : Nat → Nat → Int64)
    (h : ((if x5 < (I 91 22) then (mj_gd (mj_inB (((6 : Int32) * x5) + (0 : Int32)) 49) (mj_gd (!decide ((I 104 0) = 0)) (if (((I 106 ((((6 : Int32) * x5) + (0 : Int32))).toNatClampNeg) * (3 : Int32)) / (I 104 0)) = (1 : Int32) then (mj_gd (mj_inB (((6 : Int32) * x5) + (1 : Int32)) 49) (mj_G Ω l false mX12_sag d 0 0 Φ 0 0 10 ([some (.ref 91), some (.int x1), some (.int (x2 + (I 106 ((((6 : Int32) * x5) + (1 : Int32))).toNatClampNeg))), some (.int (x3 + (1 : Int32))), some (.int (x4 + (0 : Int32))), some (.int (x5 + (1 : Int32))), none, none, none], [], (mk I J)))) else (mj_gd (mj_inB (((6 : Int32) * x5) + (1 : Int32)) 49) (mj_G Ω l false mX12_sag d 0 0 Φ 0 0 10 ([some (.ref 91), some (.int x1), some (.int (x2 + (0 : Int32))), some (.int (x3 + (0 : Int32))), some (.int (x4 + (I 106 ((((6 : Int32) * x5) + (1 : Int32))).toNatClampNeg))), some (.int (x5 + (1 : Int32))), none, none, none], [], (mk I J))))))) else (if x3 = (0 : Int32) then (Φ (some (.int (-1000000 : Int32))) (mk I J)) else (if ((I 91 22) - x3) = (0 : Int32) then (Φ (some (.int (-1000000 : Int32))) (mk I J)) else (if x1 < (0 : Int32) then (Φ (some (.int (-1000000 : Int32))) (mk I J)) else (if (1 : Int32) < x1 then (Φ (some (.int (-1000000 : Int32))) (mk I J)) else ((mj_isk (mk I J)) ∧ ((dvP 0 (x3 * ((I 91 22) - x3)) ((x2 * ((I 91 22) - x3)) - (x4 * x3)) ∧ -2147483648 < (x3 * ((I 91 22) - x3)).toInt ∧ -2147483648 < ((x2 * ((I 91 22) - x3)) - (x4 * x3)).toInt) ∧ (if x1 = (0 : Int32) then (mj_gd (!decide ((dvR (x3 * ((I 91 22) - x3)) ((x2 * ((I 91 22) - x3)) - (x4 * x3))) = 0)) (Φ (some (.int (((x2 * ((I 91 22) - x3)) - (x4 * x3)) / (dvR (x3 * ((I 91 22) - x3)) ((x2 * ((I 91 22) - x3)) - (x4 * x3)))))) (mk I J))) else (mj_gd (!decide ((dvR (x3 * ((I 91 22) - x3)) ((x2 * ((I 91 22) - x3)) - (x4 * x3))) = 0)) (Φ (some (.int ((x3 * ((I 91 22) - x3)) / (dvR (x3 * ((I 91 22) - x3)) ((x2 * ((I 91 22) - x3)) - (x4 * x3)))))) (mk I J))))))))))))) :
    mj_G Ω l false mX12_sag d 0 0 Φ 0 0 10 ([some (.ref 91), some (.int x1), some (.int x2), some (.int x3), some (.int x4), some (.int x5), none, none, none], [], mk I J) := mj_blk (μ := mX12_sag) (P := pX12_sag_10) (cut := cutX12_sag) (cs := csX12_sag) dX12_sag_10 csX12_sag_ok hd 88 10 _ h
def tX12_sag : mj_PT := fun as M Φ => match as with
  | [.ref this, .int x] => ((this = 91 ∧ mj_isk M) ∧ (∃ m : Nat, (∃ R : RF, ((qM M.2.2.1 m R) ∧ Φ (some (.int (sagR (nM M.2.2.1) (lv7 (M.2.2.1 104)) (VM M.2.2.1) x))) M))))
  | _ => False
set_option maxHeartbeats 4000000 in
theorem mnX12_sag {Ω : mj_Om} {l : Launch} {d : Nat} {Φ : Option Value → mj_M → Prop} (hd : 31 ≤ d) (x : Int32) (m : Nat) (R : RF) (I : Nat → Nat → Int32) (J : Nat → Nat → Int64) (hp : qM I m R) (h : Φ (some (.int (sagR (nM I) (lv7 (I 104)) (VM I) x))) (mk I J)) : mj_Met Ω l false mX12_sag d 0 0 [.ref 91, .int x] (mk I J) Φ := by
  refine inX12_sag hd x I J ?_
  obtain ⟨⟨hc, hn⟩, hR, hFF, h25, h26⟩ := id hp
  have hH : ¬ ((x = 0 ∨ x = 1) ∧ ¬ thC (lv7 (I 104)) (VM I) 1 (nM I) = 0 ∧ ¬ nI (nM I) - thC (lv7 (I 104)) (VM I) 1 (nM I) = 0) → Φ (some (.int (-1000000))) (mk I J) := fun q => by
    have := h
    unfold sagR at this
    rwa [cif_f q] at this
  have e0 : I 104 0 = lv7 (I 104) 0 := (lv7_at (by decide)).symm
  refine lp_inv (σ := Int32 × Int32 × Int32) (n := nM I) (G := fun i v => mj_G Ω l false mX12_sag d 0 0 Φ 0 0 10 ([some (.ref 91), some (.int x), some (.int (v.1)), some (.int (v.2.1)), some (.int (v.2.2)), some (.int (nI i)), none, none, none], [], mk I J)) (fun i v => v = (sgM (lv7 (I 104)) (VM I) i, thC (lv7 (I 104)) (VM I) 1 i, sgO (lv7 (I 104)) (VM I) i)) (fun i v hi hI hk => ?_) (fun v hI => ?_) (nM I) 0 (0, 0, 0) (by omega) rfl
  · subst hI
    have hF := hFF (by omega)
    obtain ⟨l1, l2⟩ := l0_nz hF.1
    refine bX12_sag_10 hd x _ _ _ (nI i) I J ?_
    rw [hc, if_pos (nlt hi (by omega))]
    simp (disch := omega) only [jn_in, jn_cl, gd_dec, jn_succ, n6_0, n6_1]
    rw [e0, gd_nz l2, ← VM_0 (I := I) (b := i) hi, ← VM_1 (I := I) (b := i) hi, Int32.add_zero, Int32.add_zero, Int32.add_zero]
    split
    · rename_i z
      exact hk (_, _, _) (by rw [sgM, sgO, thC, if_pos z, if_pos z, if_pos z])
    · rename_i z
      exact hk (_, _, _) (by rw [sgM, sgO, thC, if_neg z, if_neg z, if_neg z])
  · subst hI
    refine bX12_sag_10 hd x _ _ _ (nI (nM I)) I J ?_
    rw [hc, if_neg Int32.lt_irrefl]
    by_cases q1 : thC (lv7 (I 104)) (VM I) 1 (nM I) = 0
    · rw [if_pos q1]; exact hH (fun w => w.2.1 q1)
    rw [if_neg q1]
    by_cases q2 : nI (nM I) - thC (lv7 (I 104)) (VM I) 1 (nM I) = 0
    · rw [if_pos q2]; exact hH (fun w => w.2.2 q2)
    rw [if_neg q2]
    by_cases x0 : x < 0
    · rw [if_pos x0]; exact hH (fun w => w.1.elim (fun y => by rw [y] at x0; exact absurd x0 (by decide)) (fun y => by rw [y] at x0; exact absurd x0 (by decide)))
    rw [if_neg x0]
    by_cases x1 : 1 < x
    · rw [if_pos x1]; exact hH (fun w => w.1.elim (fun y => by rw [y] at x1; exact absurd x1 (by decide)) (fun y => by rw [y] at x1; exact absurd x1 (by decide)))
    rw [if_neg x1]
    have hx : x = 0 ∨ x = 1 := by
      rw [Int32.lt_iff_toInt_lt, i_0] at x0
      rw [Int32.lt_iff_toInt_lt, i_1] at x1
      rcases (show x.toInt = 0 ∨ x.toInt = 1 by omega) with y | y
      · exact Or.inl (Int32.toInt_inj.mp y)
      · exact Or.inr (Int32.toInt_inj.mp y)
    have n0 : 0 < nM I := by
      rcases Nat.eq_zero_or_pos (nM I) with y | y
      · rw [y] at q1; exact absurd rfl q1
      · exact y
    have hF := hFF n0
    obtain ⟨⟨b, eb, hb1, hb2, hbi⟩, ha1, ha2⟩ := sg_all hF hn q1 q2
    unfold sagR at h
    rw [cif_t ⟨hx, q1, q2⟩] at h
    have eB : thC (lv7 (I 104)) (VM I) 1 (nM I) * (nI (nM I) - thC (lv7 (I 104)) (VM I) 1 (nM I)) = sgB (nM I) (lv7 (I 104)) (VM I) := rfl
    have eA : sgM (lv7 (I 104)) (VM I) (nM I) * (nI (nM I) - thC (lv7 (I 104)) (VM I) 1 (nM I)) - sgO (lv7 (I 104)) (VM I) (nM I) * thC (lv7 (I 104)) (VM I) 1 (nM I) = sgA (nM I) (lv7 (I 104)) (VM I) := rfl
    rw [eB, eA]
    generalize sgB (nM I) (lv7 (I 104)) (VM I) = B at *
    generalize sgA (nM I) (lv7 (I 104)) (VM I) = A at *
    have gz : ¬ dvR B A = 0 := by
      unfold dvR
      have g1 : 1 ≤ Nat.gcd B.toInt.natAbs A.toInt.natAbs := Nat.gcd_pos_of_pos_left _ (by omega)
      have g2 : Nat.gcd B.toInt.natAbs A.toInt.natAbs ≤ B.toInt.natAbs := Nat.le_of_dvd (by omega) (Nat.gcd_dvd_left _ _)
      rw [zero_n (by omega)]; omega
    refine ⟨mj_isk_mk _ _, ⟨?_, by omega, by omega⟩, ?_⟩
    · unfold dvP
      by_cases y : A.toInt.natAbs ≤ 16
      · exact Or.inl (by omega)
      · exact Or.inr (by omega)
    · by_cases y : x = 0
      · rw [if_pos y] at h ⊢; rw [gd_nz gz]; exact h
      · rw [if_neg y] at h ⊢; rw [gd_nz gz]; exact h
theorem sdX12_sag : mj_Sd mX12_sag 31 tX12_sag := by
  intro Ω l d hd as M Φ h
  unfold tX12_sag at h
  split at h
  · rename_i z_this x
    obtain ⟨⟨rfl, hM⟩, m, R, hp, h⟩ := h
    rw [mj_isk_of hM]
    exact mnX12_sag hd x m R _ _ hp (by
      rw [mj_isk_of hM] at h
      exact h)
  · exact h.elim
theorem two_sag {Ω : mj_Om} {l : Launch} {I : Nat → Nat → Int32} {J : Nat → Nat → Int64} (x : Int32) (h : Rel I) : Two Ω l mX11_sag mX12_sag [.int x] I J := by
  obtain ⟨m, K, k1, k2⟩ := id h.2.1
  have hq := Rel_c3 h k1 k2
  refine mnX11_sag (Nat.le_of_ble_eq_true rfl) x m (rfK m K) I J hq.1 ⟨_, I, J, rfl, rfl, ?_⟩
  refine mnX12_sag (Nat.le_of_ble_eq_true rfl) x m (rfK m K) I J hq.2 ⟨I, J, ?_, rfl, h⟩
  obtain ⟨w1, w2, w3, w4, w5⟩ := id h.2.2.1
  by_cases q : 0 < nF I 39
  · obtain ⟨x1, x2, -, -⟩ := w5 q
    rw [w3, x1, x2]
  · have e1 : nF I 39 = 0 := by omega
    have e2 : nM I = 0 := by omega
    unfold sagR
    rw [e1, e2, cif_f (fun w => w.2.1 rfl), cif_f (fun w => w.2.1 rfl)]
