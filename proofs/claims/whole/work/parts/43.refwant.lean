/-! ===== bits; the reference's worth and wants (by program, wip/whole/ps.py) ===== -/
theorem sh_amt : ∀ k : Fin 32, ((nI k.val &&& 31).toBitVec.smod 32#32).toNat = k.val := by decide +kernel
theorem tb_shr (x : Int32) {k : Nat} (hk : k < 32) : (x >>> (nI k &&& 31)).toBitVec = x.toBitVec.sshiftRight k := by
  rw [Int32.toBitVec_shiftRight]
  exact congrArg (fun z => x.toBitVec.sshiftRight z) (sh_amt ⟨k, hk⟩)
theorem tb_shl (x : Int32) {k : Nat} (hk : k < 32) : (x <<< (nI k &&& 31)).toBitVec = x.toBitVec <<< k := by
  rw [Int32.toBitVec_shiftLeft]
  exact congrArg (fun z => x.toBitVec <<< z) (sh_amt ⟨k, hk⟩)
theorem and1_b (y : BitVec 32) : (y &&& 1#32 = 1#32) = (y.getLsbD 0 = true) := by
  rw [BitVec.and_one_eq_setWidth_ofBool_getLsbD]
  cases y.getLsbD 0 <;> decide
theorem has_b (x : Int32) {b : Nat} (hb : b < 32) : (((x >>> (nI b &&& 31)) &&& 1) = 1) = (x.toBitVec.getLsbD b = true) := by
  have e : (((x >>> (nI b &&& 31)) &&& 1) = 1) = ((x.toBitVec.sshiftRight b) &&& 1#32 = 1#32) := by
    rw [← Int32.toBitVec_inj, Int32.toBitVec_and, tb_shr x hb]
    rfl
  rw [e, and1_b, BitVec.getLsbD_sshiftRight]
  simp [hb]
theorem or_b (x : Int32) {k b : Nat} (hk : k < 32) (hb : b < 32) : (x ||| (1 <<< (nI k &&& 31))).toBitVec.getLsbD b = (x.toBitVec.getLsbD b || decide (b = k)) := by
  rw [Int32.toBitVec_or, tb_shl 1 hk, BitVec.getLsbD_or, BitVec.getLsbD_shiftLeft]
  congr 1
  have e1 : (1 : Int32).toBitVec = 1#32 := rfl
  rw [e1, BitVec.getLsbD_one]
  by_cases q : b = k
  · subst q; simp [hb]
  · by_cases z : b < k
    · simp [z, q]
    · simp [q, hb]; omega
theorem sgn_r (x : Int32) : x >>> (31 &&& 31) = if x < 0 then -1 else 0 := by
  have e : (x >>> (31 &&& 31)).toBitVec = x.toBitVec.sshiftRight 31 := tb_shr x (k := 31) (by decide)
  apply Int32.toInt_inj.mp
  have h1 : (x >>> (31 &&& 31)).toInt = x.toInt >>> 31 := by
    show (x >>> (31 &&& 31)).toBitVec.toInt = x.toBitVec.toInt >>> 31
    rw [e, BitVec.toInt_sshiftRight]
  rw [h1, Int.shiftRight_eq_div_pow]
  have l1 := Int32.le_toInt x
  have l2 := Int32.toInt_lt x
  by_cases q : x < 0
  · rw [if_pos q]
    rw [Int32.lt_iff_toInt_lt, i_0] at q
    have : (-1 : Int32).toInt = -1 := rfl
    rw [this]
    omega
  · rw [if_neg q]
    rw [Int32.lt_iff_toInt_lt, i_0] at q
    rw [i_0]
    omega
theorem sgn_u (x : Int32) : ((x.toUInt32 >>> ((31 : Int32).toUInt32 &&& Int32.toUInt32 31)).toInt32) = if x < 0 then 1 else 0 := by
  have e : (x.toUInt32 >>> ((31 : Int32).toUInt32 &&& Int32.toUInt32 31)).toBitVec = x.toBitVec >>> 31 := rfl
  have l1 := Int32.le_toInt x
  have l2 := Int32.toInt_lt x
  have hx : x.toBitVec.toInt = x.toInt := rfl
  have hn : x.toBitVec.toNat < 4294967296 := x.toBitVec.isLt
  have hti := BitVec.toInt_eq_toNat_cond x.toBitVec
  rw [hx] at hti
  apply Int32.toBitVec_inj.mp
  show (x.toUInt32 >>> ((31 : Int32).toUInt32 &&& Int32.toUInt32 31)).toBitVec = _
  rw [e]
  apply BitVec.eq_of_toNat_eq
  rw [BitVec.toNat_ushiftRight, Nat.shiftRight_eq_div_pow]
  by_cases q : x < 0
  · rw [if_pos q]
    rw [Int32.lt_iff_toInt_lt, i_0] at q
    have : (1 : Int32).toBitVec.toNat = 1 := rfl
    rw [this]
    split at hti <;> omega
  · rw [if_neg q]
    rw [Int32.lt_iff_toInt_lt, i_0] at q
    have : (0 : Int32).toBitVec.toNat = 0 := rfl
    rw [this]
    split at hti <;> omega
def sgnI (x : Int32) : Int32 := if 0 < x then 1 else if x < 0 then -1 else 0
theorem asp_sgn {v m x : Int32} : asp v m (sgnI x) = asp v m x := by
  unfold sgnI
  by_cases q : 0 < x
  · rw [if_pos q]; unfold asp; rw [if_pos q, if_pos (by decide)]
  · rw [if_neg q]
    by_cases z : x < 0
    · rw [if_pos z]; unfold asp; rw [if_neg q, if_pos z, if_neg (by decide), if_pos (by decide)]
    · rw [if_neg z]; unfold asp; rw [if_neg q, if_neg z, if_neg (by decide), if_neg (by decide)]
def offM : List (List Int32 × List Int32) → Nat → Nat
  | [], _ => 0
  | _ :: _, 0 => 0
  | q :: r, c + 1 => q.1.length + q.2.length + offM r c
/-- the reference's row r holds these clauses -/
def CLM (I : Nat → Nat → Int32) (r : Nat) (cs : List (List Int32 × List Int32)) : Prop := (∀ q ∈ cs, clOk q) ∧ cs.length ≤ 140 ∧ I 96 r = nI cs.length ∧ ∀ c, c < cs.length → offM cs c + (cs.getD c ([], [])).1.length + (cs.getD c ([], [])).2.length ≤ 520 ∧ I 97 (140 * r + c) = nI (offM cs c) ∧ I 98 (140 * r + c) = nI (offM cs c + (cs.getD c ([], [])).1.length) ∧ I 99 (140 * r + c) = nI (offM cs c + (cs.getD c ([], [])).1.length + (cs.getD c ([], [])).2.length) ∧ (∀ j, j < (cs.getD c ([], [])).1.length → cmR (I 93 (520 * r + offM cs c + j)) (I 94 (520 * r + offM cs c + j)) ((cs.getD c ([], [])).1.getD j 0)) ∧ (∀ j, j < (cs.getD c ([], [])).2.length → cmR (I 93 (520 * r + (offM cs c + (cs.getD c ([], [])).1.length) + j)) (I 94 (520 * r + (offM cs c + (cs.getD c ([], [])).1.length) + j)) ((cs.getD c ([], [])).2.getD j 0))
def RKM (I : Nat → Nat → Int32) (n : Nat) (K : KT) : Prop := I 91 13 = nI n ∧ n ≤ 4 ∧ ∀ r, r < n → CLM I r (K r)
def RuM (I : Nat → Nat → Int32) (n : Nat) (R : RF) : Prop := ∃ K : KT, RKM I n K ∧ R = rfK n K
theorem CLM_fr {I I1 : Nat → Nat → Int32} {r : Nat} {cs : List (List Int32 × List Int32)} (h : CLM I r cs) (e : ∀ c k, 93 ≤ c → c ≤ 99 → I1 c k = I c k) : CLM I1 r cs := by
  obtain ⟨h1, h2, h3, h4⟩ := h
  refine ⟨h1, h2, by rw [e 96 r (by omega) (by omega)]; exact h3, fun c hc => ?_⟩
  obtain ⟨g0, g1, g2, g3, g4, g5⟩ := h4 c hc
  exact ⟨g0, by rw [e 97 _ (by omega) (by omega)]; exact g1, by rw [e 98 _ (by omega) (by omega)]; exact g2, by rw [e 99 _ (by omega) (by omega)]; exact g3, fun j hj => by rw [e 93 _ (by omega) (by omega), e 94 _ (by omega) (by omega)]; exact g4 j hj, fun j hj => by rw [e 93 _ (by omega) (by omega), e 94 _ (by omega) (by omega)]; exact g5 j hj⟩
theorem RuM_fr {I I1 : Nat → Nat → Int32} {n : Nat} {R : RF} (h : RuM I n R) (e0 : I1 91 13 = I 91 13) (e : ∀ c k, 93 ≤ c → c ≤ 99 → I1 c k = I c k) : RuM I1 n R := by
  obtain ⟨K, ⟨h1, h2, h3⟩, h4⟩ := h
  exact ⟨K, ⟨by rw [e0]; exact h1, h2, fun r hr => CLM_fr (h3 r hr) e⟩, h4⟩
def csJ6_signum_0f7a4S : List (Nat × Nat × Nat × mj_PT) := []
theorem csJ6_signum_0f7a4S_ok : mj_Cs mJ6_signum_0f7a4 1 csJ6_signum_0f7a4S := mj_Cs0
def cutJ6_signum_0f7a4S : List (Nat × List Bool) := []
set_option maxRecDepth 100000 in
set_option maxHeartbeats 4000000 in
theorem inJ6_signum_0f7a4S {Ω : mj_Om} {l : Launch} {d : Nat} {Φ : Option Value → mj_M → Prop} (hd : 1 ≤ d) (x : Int32) (I : Nat → Nat → Int32) (J : Nat → Nat → Int64)
    (h : ((Φ (some (.int ((x >>> ((31 : Int32) &&& 31)) ||| ((((-x)).toUInt32 >>> (((31 : Int32)).toUInt32 &&& Int32.toUInt32 31)).toInt32)))) (mk I J)))) :
    mj_Met Ω l false mJ6_signum_0f7a4 d 0 0 [.int x] (mk I J) Φ := mj_entry (by decide) rfl (fun h => (by cases h)) (Nat.le_of_ble_eq_true rfl) (mj_blk (μ := mJ6_signum_0f7a4) (P := pJ6_signum_0f7a4) (cut := cutJ6_signum_0f7a4S) (cs := csJ6_signum_0f7a4S) dJ6_signum_0f7a4 csJ6_signum_0f7a4S_ok hd 10 0 _ h)
def tJ6_signum_0f7a4S : mj_PT := fun as M Φ => match as with
  | [.int x] => ((mj_isk M) ∧ Φ (some (.int (sgnI x))) M)
  | _ => False
theorem mnJ6_signum_0f7a4S {Ω : mj_Om} {l : Launch} {d : Nat} {Φ : Option Value → mj_M → Prop} (hd : 1 ≤ d) (x : Int32) (I : Nat → Nat → Int32) (J : Nat → Nat → Int64) (h : Φ (some (.int (sgnI x))) (mk I J)) : mj_Met Ω l false mJ6_signum_0f7a4 d 0 0 [.int x] (mk I J) Φ := by
  refine inJ6_signum_0f7a4S hd x I J ?_
  have h' : ∀ r : Int32, r = sgnI x → Φ (some (.int r)) (mk I J) := fun r hr => hr ▸ h
  refine h' _ ?_
  rw [sgn_r, sgn_u]
  unfold sgnI
  have e : (-x < 0) ↔ (0 < x ∨ x = -2147483648) := by
    rw [Int32.lt_iff_toInt_lt, Int32.lt_iff_toInt_lt, ← Int32.toInt_inj, i_0, Int32.toInt_neg]
    have l1 := Int32.le_toInt x
    have l2 := Int32.toInt_lt x
    have l3 : (-2147483648 : Int32).toInt = -2147483648 := rfl
    rw [l3]
    by_cases q : x.toInt = -2147483648
    · rw [q]; decide
    · rw [Int.bmod_eq_of_le (by omega) (by omega)]
      omega
  by_cases q : 0 < x
  · have q2 : ¬ x < 0 := fun w => by rw [Int32.lt_iff_toInt_lt] at q w; omega
    rw [if_pos q, if_neg q2, if_pos (e.mpr (Or.inl q))]
    rfl
  · rw [if_neg q]
    by_cases z : x < 0
    · rw [if_pos z]
      try rw [if_pos z]
      by_cases w : x = -2147483648
      · rw [if_pos (e.mpr (Or.inr w))]; decide
      · rw [if_neg (fun y => (e.mp y).elim q w)]; decide
    · rw [if_neg z]
      try rw [if_neg z]
      rw [if_neg (fun y => (e.mp y).elim q (fun w => z (by rw [w]; decide)))]
      rfl
theorem sdJ6_signum_0f7a4S : mj_Sd mJ6_signum_0f7a4 1 tJ6_signum_0f7a4S := by
  intro Ω l d hd as M Φ h
  unfold tJ6_signum_0f7a4S at h
  split at h
  · rename_i x
    obtain ⟨hM, h⟩ := h
    rw [mj_isk_of hM]
    exact mnJ6_signum_0f7a4S hd x _ _ (by
      rw [mj_isk_of hM] at h
      exact h)
  · exact h.elim
def csX12_worthOf : List (Nat × Nat × Nat × mj_PT) := [(210, 0, 4, mj_rcv 12 tX12_workOut)]
theorem csX12_worthOf_ok : mj_Cs mX12_worthOf 5 csX12_worthOf := (mj_CsV (D' := 4) (ci := 12) (q := (RX12, TX12, 45)) sdX12_workOut (Nat.le_of_ble_eq_true rfl) fX12_workOut rfl rfl iX12_workOut vX12_workOut (by decide +kernel) l12_210 mj_Cs0)
def cutX12_worthOf : List (Nat × List Bool) := [(6, [true, true, true])]
set_option maxRecDepth 100000 in
set_option maxHeartbeats 4000000 in
theorem inX12_worthOf {Ω : mj_Om} {l : Launch} {d : Nat} {Φ : Option Value → mj_M → Prop} (hd : 5 ≤ d) (r_ : Int32) (I : Nat → Nat → Int32) (J : Nat → Nat → Int64)
    (h : ((mj_G Ω l false mX12_worthOf d 0 0 Φ 0 0 6 ([some (.ref 91), some (.int r_), some (.int ((140 : Int32) * r_))], [], (mk I J))))) :
    mj_Met Ω l false mX12_worthOf d 0 0 [.ref 91, .int r_] (mk I J) Φ := mj_entry (by decide) rfl (fun h => (by cases h)) (Nat.le_of_ble_eq_true rfl) (mj_blk (μ := mX12_worthOf) (P := pX12_worthOf) (cut := cutX12_worthOf) (cs := csX12_worthOf) dX12_worthOf csX12_worthOf_ok hd 52 0 _ h)
set_option maxRecDepth 100000 in
set_option maxHeartbeats 4000000 in
theorem bX12_worthOf_6 {Ω : mj_Om} {l : Launch} {d : Nat} {Φ : Option Value → mj_M → Prop} (hd : 5 ≤ d) (x1 : Int32) (x2 : Int32) (I : Nat → Nat → Int32) (J : Nat → Nat → Int64)
    (h : ((mj_gd (mj_inB x1 5) (if x2 < (((140 : Int32) * x1) + (I 96 (x1).toNatClampNeg)) then (mj_gd (mj_inB x2 700) (mj_gd (mj_inB x2 700) (if (I 97 (x2).toNatClampNeg) = (I 98 (x2).toNatClampNeg) then (mj_gd (mj_inB x2 700) (mj_gd (mj_inB x2 700) ((91 = 91 ∧ mj_isk (mk I J)) ∧ (∃ n212 : Nat, x1 = nI n212 ∧ (∃ a213 : Nat, (I 98 (x2).toNatClampNeg) = nI a213 ∧ (∃ b214 : Nat, (I 99 (x2).toNatClampNeg) = nI b214 ∧ (∃ ys215 : List Int32, (∃ kd216 : Bool, (((n212 ≤ 4 ∧ b214 = a213 + ys215.length ∧ b214 ≤ 520) ∧ (∀ j, j < ys215.length → cmR (I 93 (520 * n212 + a213 + j)) (I 94 (520 * n212 + a213 + j)) (ys215.getD j 0)) ∧ tyL ys215 [] = some [kd216] ∧ letB (lv7 (I 100))) ∧ (∀ I217 : Nat → Nat → Int32, (fr (fun c _ => c = 101) I I217) → (Φ (some (.int (Int32.ofInt (valC (lv7 (I 100)) ys215)))) (mk I217 J)))))))))))) else (mj_gd (mj_inB x2 700) (mj_gd (mj_inB x2 700) ((91 = 91 ∧ mj_isk (mk I J)) ∧ (∃ n219 : Nat, x1 = nI n219 ∧ (∃ a220 : Nat, (I 97 (x2).toNatClampNeg) = nI a220 ∧ (∃ b221 : Nat, (I 98 (x2).toNatClampNeg) = nI b221 ∧ (∃ ys222 : List Int32, (∃ kd223 : Bool, (((n219 ≤ 4 ∧ b221 = a220 + ys222.length ∧ b221 ≤ 520) ∧ (∀ j, j < ys222.length → cmR (I 93 (520 * n219 + a220 + j)) (I 94 (520 * n219 + a220 + j)) (ys222.getD j 0)) ∧ tyL ys222 [] = some [kd223] ∧ letB (lv7 (I 100))) ∧ (∀ I224 : Nat → Nat → Int32, (fr (fun c _ => c = 101) I I224) → (if (Int32.ofInt (valC (lv7 (I 100)) ys222)) = (0 : Int32) then (mj_G Ω l false mX12_worthOf d 0 0 Φ 0 0 6 ([some (.ref 91), some (.int x1), some (.int (x2 + (1 : Int32)))], [], (mk I224 J))) else (mj_gd (mj_inB x2 700) (mj_gd (mj_inB x2 700) ((91 = 91 ∧ mj_isk (mk I224 J)) ∧ (∃ n226 : Nat, x1 = nI n226 ∧ (∃ a227 : Nat, (I224 98 (x2).toNatClampNeg) = nI a227 ∧ (∃ b228 : Nat, (I224 99 (x2).toNatClampNeg) = nI b228 ∧ (∃ ys229 : List Int32, (∃ kd230 : Bool, (((n226 ≤ 4 ∧ b228 = a227 + ys229.length ∧ b228 ≤ 520) ∧ (∀ j, j < ys229.length → cmR (I224 93 (520 * n226 + a227 + j)) (I224 94 (520 * n226 + a227 + j)) (ys229.getD j 0)) ∧ tyL ys229 [] = some [kd230] ∧ letB (lv7 (I224 100))) ∧ (∀ I231 : Nat → Nat → Int32, (fr (fun c _ => c = 101) I224 I231) → (Φ (some (.int (Int32.ofInt (valC (lv7 (I224 100)) ys229)))) (mk I231 J)))))))))))))))))))))))))) else (Φ (some (.int (0 : Int32))) (mk I J)))))) :
    mj_G Ω l false mX12_worthOf d 0 0 Φ 0 0 6 ([some (.ref 91), some (.int x1), some (.int x2)], [], mk I J) := mj_blk (μ := mX12_worthOf) (P := pX12_worthOf) (cut := cutX12_worthOf) (cs := csX12_worthOf) dX12_worthOf csX12_worthOf_ok hd 52 6 _ h
def tX12_worthOf : mj_PT := fun as M Φ => match as with
  | [.ref this, .int r_] => ((this = 91 ∧ mj_isk M) ∧ (∃ r : Nat, r_ = nI r ∧ (∃ cs : List (List Int32 × List Int32), ((r ≤ 4 ∧ CLM M.2.2.1 r cs ∧ letB (lv7 (M.2.2.1 100))) ∧ (∀ I1 : Nat → Nat → Int32, (fr (fun c _ => c = 101) M.2.2.1 I1) → Φ (some (.int (Int32.ofInt (worthL (lv7 (M.2.2.1 100)) cs)))) (M.1, M.2.1, I1, M.2.2.2))))))
  | _ => False
set_option maxHeartbeats 8000000 in
theorem mnX12_worthOf {Ω : mj_Om} {l : Launch} {d : Nat} {Φ : Option Value → mj_M → Prop} (hd : 5 ≤ d) (r : Nat) (cs : List (List Int32 × List Int32)) (I : Nat → Nat → Int32) (J : Nat → Nat → Int64) (hp : r ≤ 4 ∧ CLM I r cs ∧ letB (lv7 (I 100))) (h : ∀ I1 : Nat → Nat → Int32, (fr (fun c _ => c = 101) I I1) → Φ (some (.int (Int32.ofInt (worthL (lv7 (I 100)) cs)))) (mk I1 J)) : mj_Met Ω l false mX12_worthOf d 0 0 [.ref 91, .int (nI r)] (mk I J) Φ := by
  refine inX12_worthOf hd (nI r) I J ?_
  obtain ⟨hr, hC, hL⟩ := hp
  generalize hLL : lv7 (I 100) = L at *
  have key : ∀ (k c : Nat) (I' : Nat → Nat → Int32), c + k = cs.length → fr (fun c _ => c = 101) I I' → (∀ I1, fr (fun c _ => c = 101) I I1 → Φ (some (.int (Int32.ofInt (worthL L (cs.drop c))))) (mk I1 J)) → mj_G Ω l false mX12_worthOf d 0 0 Φ 0 0 6 ([some (.ref 91), some (.int (nI r)), some (.int (nI (140 * r + c)))], [], mk I' J) := by
    intro k
    induction k with
    | zero =>
      intro c I' hc hfr h
      refine bX12_worthOf_6 hd (nI r) (nI (140 * r + c)) I' J ?_
      have hC' := CLM_fr hC (I1 := I') (fun a k h1 h2 => hfr a k (by (try dsimp only); omega))
      have hl := hC'.2.1
      simp (disch := omega) only [jn_in, jn_cl, gd_dec]
      rw [hC'.2.2.1, show (140 : Int32) = nI 140 from rfl, jn_mul, jn_add, if_neg (by rw [jn_lt (by omega) (by omega)]; omega)]
      have := h I' hfr
      rw [List.drop_eq_nil_of_le (by omega)] at this
      exact this
    | succ k ih =>
      intro c I' hc hfr h
      refine bX12_worthOf_6 hd (nI r) (nI (140 * r + c)) I' J ?_
      have hC' := CLM_fr hC (I1 := I') (fun a k h1 h2 => hfr a k (by (try dsimp only); omega))
      have hl := hC'.2.1
      obtain ⟨g0, g1, g2, g3, g4, g5⟩ := hC'.2.2.2 c (by omega)
      have hdrop : cs.drop c = (cs.getD c ([], [])) :: cs.drop (c + 1) := by
        rw [List.getD_eq_getElem?_getD, List.getElem?_eq_getElem (by omega)]
        exact List.drop_eq_getElem_cons (by omega)
      have hok : clOk (cs.getD c ([], [])) := by
        refine hC.1 _ ?_
        rw [List.getD_eq_getElem?_getD, List.getElem?_eq_getElem (by omega)]
        exact List.getElem_mem _
      have hL' : letB (lv7 (I' 100)) := by rw [lv7_fr (fun k => hfr 100 k (by (try dsimp only); omega)), hLL]; exact hL
      have hLe : lv7 (I' 100) = L := by rw [lv7_fr (fun k => hfr 100 k (by (try dsimp only); omega)), hLL]
      rw [hdrop] at h
      generalize cs.getD c ([], []) = q at *
      obtain ⟨t, s⟩ := q
      simp only at g0 g1 g2 g3 g4 g5
      generalize offM cs c = o at *
      simp (disch := omega) only [jn_in, jn_cl, gd_dec]
      rw [hC'.2.2.1, show (140 : Int32) = nI 140 from rfl, jn_mul, jn_add, if_pos (by rw [jn_lt (by omega) (by omega)]; omega)]
      rw [g1, g2, g3]
      have end1 : ∀ I2 : Nat → Nat → Int32, fr (fun c _ => c = 101) I I2 → (t = [] ∨ valC L t ≠ 0) → Φ (some (.int (Int32.ofInt (valC L s)))) (mk I2 J) := by
        intro I2 h2 hc2
        have := h I2 h2
        unfold worthL at this
        rwa [if_pos hc2] at this
      by_cases ht : t = []
      · rw [if_pos (by rw [ht]; rfl)]
        refine ⟨⟨by trivial, mj_isk_mk _ _⟩, r, rfl, o + t.length, rfl, o + t.length + s.length, rfl, s, false, ⟨⟨hr, rfl, g0⟩, g5, hok.2, hL'⟩, fun I2 h2 => ?_⟩
        rw [hLe]
        exact end1 I2 (fr_tr hfr h2) (Or.inl ht)
      · have htl : 0 < t.length := List.length_pos_iff.mpr ht
        rw [if_neg (by rw [jn_eq (by omega) (by omega)]; omega)]
        refine ⟨⟨by trivial, mj_isk_mk _ _⟩, r, rfl, o, rfl, o + t.length, rfl, t, true, ⟨⟨hr, rfl, by omega⟩, g4, hok.1.resolve_left ht, hL'⟩, fun I2 h2 => ?_⟩
        rw [hLe]
        have h6 := (exC_1 hL (hok.1.resolve_left ht)).2
        have hz : (Int32.ofInt (valC L t) = 0) = (valC L t = 0) := by
          rw [← Int32.toInt_inj, oI h6]; rfl
        by_cases hv : valC L t = 0
        · rw [if_pos (hz.mpr hv), jn_succ, Nat.add_assoc]
          refine ih (c + 1) I2 (by omega) (fr_tr hfr h2) (fun I1 h1 => ?_)
          have := h I1 h1
          unfold worthL at this
          rwa [if_neg (by simp [ht, hv])] at this
        · rw [if_neg (fun w => hv (hz.mp w))]
          try simp (disch := omega) only [jn_in, jn_cl, gd_dec]
          have r98 : I2 98 (140 * r + c) = nI (o + t.length) := by rw [h2 98 _ (by (try dsimp only); omega)]; exact g2
          have r99 : I2 99 (140 * r + c) = nI (o + t.length + s.length) := by rw [h2 99 _ (by (try dsimp only); omega)]; exact g3
          have hLe2 : lv7 (I2 100) = L := by rw [lv7_fr (fun k => h2 100 k (by (try dsimp only); omega)), hLe]
          rw [r98, r99]
          refine ⟨⟨by trivial, mj_isk_mk _ _⟩, r, rfl, o + t.length, rfl, o + t.length + s.length, rfl, s, false, ⟨⟨hr, rfl, g0⟩, fun j hj => ?_, hok.2, by rw [hLe2]; exact hL⟩, fun I3 h3 => ?_⟩
          · rw [h2 93 _ (by (try dsimp only); omega), h2 94 _ (by (try dsimp only); omega)]
            exact g5 j hj
          · rw [hLe2]
            exact end1 I3 (fr_tr hfr (fr_tr h2 h3)) (Or.inr hv)
  have e0 : (140 : Int32) * nI r = nI (140 * r + 0) := by rw [show (140 : Int32) = nI 140 from rfl, jn_mul]; rfl
  rw [e0]
  exact key cs.length 0 I (by omega) fr_rf h
theorem sdX12_worthOf : mj_Sd mX12_worthOf 5 tX12_worthOf := by
  intro Ω l d hd as M Φ h
  unfold tX12_worthOf at h
  split at h
  · rename_i z_this r_
    obtain ⟨⟨rfl, hM⟩, r, rfl, cs, hp, h⟩ := h
    rw [mj_isk_of hM]
    exact mnX12_worthOf hd r cs _ _ hp (by
      rw [mj_isk_of hM] at h
      exact h)
  · exact h.elim
theorem MM_106 {I I1 : Nat → Nat → Int32} (h0 : I1 91 22 = I 91 22) (h : ∀ k, I1 105 k = I 105 k) (h2 : ∀ k, I1 106 k = I 106 k) : nM I1 = nM I ∧ VM I1 = VM I ∧ (okM I → okM I1) := MM_fr h0 h h2
theorem in_r {x : Int32} {m : Nat} (hm : m ≤ 4) : (¬ x < 0 ∧ ¬ nI m - 1 < x) ↔ (0 ≤ x ∧ x < nI m) := by
  have e : (nI m - 1).toInt = (m : Int) - 1 := by
    rw [i_sub (y := 1) (by rw [jn_toInt (by omega), i_1]; omega), jn_toInt (by omega), i_1]
  rw [Int32.lt_iff_toInt_lt, Int32.lt_iff_toInt_lt, Int32.le_iff_toInt_le, Int32.lt_iff_toInt_lt, e, jn_toInt (by omega), i_0]
  omega
def csX12_wantsOf : List (Nat × Nat × Nat × mj_PT) := [(214, 1, 3, tX12_in), (283, 0, 3, mj_rcv 12 tX12_of), (286, 1, 1, mj_ptab), (297, 0, 2, mj_rcv 12 tX12_isShadowed), (318, 0, 2, mj_rcv 12 tX12_believed), (323, 0, 1, mj_rcv 12 tX12_leftSeconds), (326, 0, 2, mj_rcv 12 tX12_isLeewardHeld), (329, 0, 2, mj_rcv 12 tX12_worthOf), (332, 1, 1, tJ6_signum_0f7a4S)]
theorem csX12_wantsOf_ok : mj_Cs mX12_wantsOf 6 csX12_wantsOf := (mj_CsS (D' := 1) sdX12_in (Nat.le_of_ble_eq_true rfl) fX12_in sX12_in (by decide +kernel) l12_214 (mj_CsV (D' := 1) (ci := 12) (q := (RX12, TX12, 45)) sdX12_of (Nat.le_of_ble_eq_true rfl) fX12_of rfl rfl iX12_of vX12_of (by decide +kernel) l12_283 (mj_Csab (Nat.le_of_ble_eq_true rfl) l12_286 (mj_CsV (D' := 2) (ci := 12) (q := (RX12, TX12, 45)) sdX12_isShadowed (Nat.le_of_ble_eq_true rfl) fX12_isShadowed rfl rfl iX12_isShadowed vX12_isShadowed (by decide +kernel) l12_297 (mj_CsV (D' := 2) (ci := 12) (q := (RX12, TX12, 45)) sdX12_believed (Nat.le_of_ble_eq_true rfl) fX12_believed rfl rfl iX12_believed vX12_believed (by decide +kernel) l12_318 (mj_CsV (D' := 1) (ci := 12) (q := (RX12, TX12, 45)) sdX12_leftSeconds (Nat.le_of_ble_eq_true rfl) fX12_leftSeconds rfl rfl iX12_leftSeconds vX12_leftSeconds (by decide +kernel) l12_323 (mj_CsV (D' := 3) (ci := 12) (q := (RX12, TX12, 45)) sdX12_isLeewardHeld (Nat.le_of_ble_eq_true rfl) fX12_isLeewardHeld rfl rfl iX12_isLeewardHeld vX12_isLeewardHeld (by decide +kernel) l12_326 (mj_CsV (D' := 5) (ci := 12) (q := (RX12, TX12, 45)) sdX12_worthOf (Nat.le_of_ble_eq_true rfl) fX12_worthOf rfl rfl iX12_worthOf vX12_worthOf (by decide +kernel) l12_329 (mj_CsS (D' := 1) sdJ6_signum_0f7a4S (Nat.le_of_ble_eq_true rfl) fJ6_signum_0f7a4 sJ6_signum_0f7a4 (by decide +kernel) l12_332 mj_Cs0)))))))))
def cutX12_wantsOf : List (Nat × List Bool) := [(28, [true, true, true, true, true]), (89, [true, true, true, true, true]), (99, [true, true, true, true, true]), (111, [true, true, true, true, true]), (123, [true, true, true, true, true]), (130, [true, true, true, true, true]), (149, [true, true, true, true, true]), (169, [true, true, true, true, true])]
def pX12_wantsOf_0 : List (Nat × Instr × Nat) := [(0, .aload_n 0, 1), (1, .iload_n 1, 1), (2, .iconst 3, 1), (3, .invokevirtual 283, 3), (6, .istore_n 2, 1), (7, .iload_n 2, 1), (8, .iconst 0, 1), (9, .aload_n 0, 1), (10, .getfield 280, 3), (13, .iconst 1, 1), (14, .isub, 1), (15, .invokestatic 214, 3), (18, .ifCond .ne 5, 3), (21, .iconst 0, 1), (22, .ireturn, 1), (23, .iconst 0, 1), (24, .istore_n 3, 1), (25, .iconst 0, 1), (26, .istore 4, 2), (28, .iload 4, 2)]
set_option maxRecDepth 100000 in
theorem dX12_wantsOf_0 : mj_pd cX12_wantsOf pX12_wantsOf_0 := mj_pdB (by decide +kernel)
set_option maxRecDepth 100000 in
set_option maxHeartbeats 4000000 in
theorem inX12_wantsOf {Ω : mj_Om} {l : Launch} {d : Nat} {Φ : Option Value → mj_M → Prop} (hd : 6 ≤ d) (b_ : Int32) (I : Nat → Nat → Int32) (J : Nat → Nat → Int64)
    (h : ((mj_gd (mj_inB (((6 : Int32) * b_) + (3 : Int32)) 49) (if (I 106 ((((6 : Int32) * b_) + (3 : Int32))).toNatClampNeg) < (0 : Int32) then (Φ (some (.int (0 : Int32))) (mk I J)) else (if ((I 91 13) - (1 : Int32)) < (I 106 ((((6 : Int32) * b_) + (3 : Int32))).toNatClampNeg) then (Φ (some (.int (0 : Int32))) (mk I J)) else (mj_G Ω l false mX12_wantsOf d 0 0 Φ 0 0 28 ([some (.ref 91), some (.int b_), some (.int (I 106 ((((6 : Int32) * b_) + (3 : Int32))).toNatClampNeg)), some (.int (0 : Int32)), some (.int (0 : Int32))], [], (mk I J)))))))) :
    mj_Met Ω l false mX12_wantsOf d 0 0 [.ref 91, .int b_] (mk I J) Φ := mj_entry (by decide) rfl (fun h => (by cases h)) (Nat.le_of_ble_eq_true rfl) (mj_blk (μ := mX12_wantsOf) (P := pX12_wantsOf_0) (cut := cutX12_wantsOf) (cs := csX12_wantsOf) dX12_wantsOf_0 csX12_wantsOf_ok hd 21 0 _ h)
def pX12_wantsOf_28 : List (Nat × Instr × Nat) := [(28, .iload 4, 2), (30, .aload_n 0, 1), (31, .getfield 255, 3), (34, .if_icmp .ge 44, 3), (37, .iload_n 3, 1), (38, .iload 4, 2), (40, .iload_n 1, 1), (41, .if_icmp .eq 28, 3), (44, .aload_n 0, 1), (45, .iload 4, 2), (47, .iconst 0, 1), (48, .invokevirtual 283, 3), (51, .aload_n 0, 1), (52, .iload_n 1, 1), (53, .iconst 0, 1), (54, .invokevirtual 283, 3), (57, .isub, 1), (58, .invokestatic 286, 3), (61, .iconst 1, 1), (62, .if_icmp .gt 7, 3), (65, .iconst 1, 1), (66, .goto 4, 3), (69, .iconst 0, 1), (70, .iadd, 1), (71, .istore_n 3, 1), (72, .iinc 4 1, 3), (75, .goto (-47), 3), (78, .aload_n 0, 1), (79, .getfield 34, 3), (82, .iconst 0, 1), (83, .aload_n 0, 1), (84, .iload_n 1, 1), (85, .invokevirtual 318, 3), (88, .iastore, 1), (89, .aload_n 0, 1)]
set_option maxRecDepth 100000 in
theorem dX12_wantsOf_28 : mj_pd cX12_wantsOf pX12_wantsOf_28 := mj_pdB (by decide +kernel)
set_option maxRecDepth 100000 in
set_option maxHeartbeats 4000000 in
theorem bX12_wantsOf_28 {Ω : mj_Om} {l : Launch} {d : Nat} {Φ : Option Value → mj_M → Prop} (hd : 6 ≤ d) (x1 : Int32) (x2 : Int32) (x3 : Int32) (x4 : Int32) (I : Nat → Nat → Int32) (J : Nat → Nat → Int64)
    (h : ((if x4 < (I 91 22) then (if x4 = x1 then (mj_G Ω l false mX12_wantsOf d 0 0 Φ 0 0 28 ([some (.ref 91), some (.int x1), some (.int x2), some (.int (x3 + (0 : Int32))), some (.int (x4 + (1 : Int32)))], [], (mk I J))) else (mj_gd (mj_inB (((6 : Int32) * x4) + (0 : Int32)) 49) (mj_gd (mj_inB (((6 : Int32) * x1) + (0 : Int32)) 49) (if (1 : Int32) < (if (0 : Int32) ≤ ((I 106 ((((6 : Int32) * x4) + (0 : Int32))).toNatClampNeg) - (I 106 ((((6 : Int32) * x1) + (0 : Int32))).toNatClampNeg)) then ((I 106 ((((6 : Int32) * x4) + (0 : Int32))).toNatClampNeg) - (I 106 ((((6 : Int32) * x1) + (0 : Int32))).toNatClampNeg)) else 0 - ((I 106 ((((6 : Int32) * x4) + (0 : Int32))).toNatClampNeg) - (I 106 ((((6 : Int32) * x1) + (0 : Int32))).toNatClampNeg))) then (mj_G Ω l false mX12_wantsOf d 0 0 Φ 0 0 28 ([some (.ref 91), some (.int x1), some (.int x2), some (.int (x3 + (0 : Int32))), some (.int (x4 + (1 : Int32)))], [], (mk I J))) else (mj_G Ω l false mX12_wantsOf d 0 0 Φ 0 0 28 ([some (.ref 91), some (.int x1), some (.int x2), some (.int (x3 + (1 : Int32))), some (.int (x4 + (1 : Int32)))], [], (mk I J))))))) else ((91 = 91 ∧ mj_isk (mk I J)) ∧ (∃ b245 : Nat, x1 = nI b245 ∧ ((okM I ∧ b245 < nM I) ∧ (mj_G Ω l false mX12_wantsOf d 0 0 Φ 0 0 89 ([some (.ref 91), some (.int x1), some (.int x2), some (.int x3), some (.int x4)], [], (mk (mj_ui I 100 0 (blv (VM I) b245)) J))))))))) :
    mj_G Ω l false mX12_wantsOf d 0 0 Φ 0 0 28 ([some (.ref 91), some (.int x1), some (.int x2), some (.int x3), some (.int x4)], [], mk I J) := mj_blk (μ := mX12_wantsOf) (P := pX12_wantsOf_28) (cut := cutX12_wantsOf) (cs := csX12_wantsOf) dX12_wantsOf_28 csX12_wantsOf_ok hd 36 28 _ h
def pX12_wantsOf_89 : List (Nat × Instr × Nat) := [(89, .aload_n 0, 1), (90, .getfield 34, 3), (93, .iconst 1, 1), (94, .aload_n 0, 1), (95, .invokevirtual 323, 3), (98, .iastore, 1), (99, .aload_n 0, 1)]
set_option maxRecDepth 100000 in
theorem dX12_wantsOf_89 : mj_pd cX12_wantsOf pX12_wantsOf_89 := mj_pdB (by decide +kernel)
set_option maxRecDepth 100000 in
set_option maxHeartbeats 4000000 in
theorem bX12_wantsOf_89 {Ω : mj_Om} {l : Launch} {d : Nat} {Φ : Option Value → mj_M → Prop} (hd : 6 ≤ d) (x1 : Int32) (x2 : Int32) (x3 : Int32) (x4 : Int32) (I : Nat → Nat → Int32) (J : Nat → Nat → Int64)
    (h : ((mj_G Ω l false mX12_wantsOf d 0 0 Φ 0 0 99 ([some (.ref 91), some (.int x1), some (.int x2), some (.int x3), some (.int x4)], [], (mk (mj_ui I 100 1 ((I 104 5) - (I 106 48))) J))))) :
    mj_G Ω l false mX12_wantsOf d 0 0 Φ 0 0 89 ([some (.ref 91), some (.int x1), some (.int x2), some (.int x3), some (.int x4)], [], mk I J) := mj_blk (μ := mX12_wantsOf) (P := pX12_wantsOf_89) (cut := cutX12_wantsOf) (cs := csX12_wantsOf) dX12_wantsOf_89 csX12_wantsOf_ok hd 8 89 _ h
def pX12_wantsOf_99 : List (Nat × Instr × Nat) := [(99, .aload_n 0, 1), (100, .getfield 34, 3), (103, .iconst 2, 1), (104, .aload_n 0, 1), (105, .iload_n 1, 1), (106, .iconst 2, 1), (107, .invokevirtual 283, 3), (110, .iastore, 1), (111, .aload_n 0, 1)]
set_option maxRecDepth 100000 in
theorem dX12_wantsOf_99 : mj_pd cX12_wantsOf pX12_wantsOf_99 := mj_pdB (by decide +kernel)
set_option maxRecDepth 100000 in
set_option maxHeartbeats 4000000 in
theorem bX12_wantsOf_99 {Ω : mj_Om} {l : Launch} {d : Nat} {Φ : Option Value → mj_M → Prop} (hd : 6 ≤ d) (x1 : Int32) (x2 : Int32) (x3 : Int32) (x4 : Int32) (I : Nat → Nat → Int32) (J : Nat → Nat → Int64)
    (h : ((mj_gd (mj_inB (((6 : Int32) * x1) + (2 : Int32)) 49) (mj_G Ω l false mX12_wantsOf d 0 0 Φ 0 0 111 ([some (.ref 91), some (.int x1), some (.int x2), some (.int x3), some (.int x4)], [], (mk (mj_ui I 100 2 (I 106 ((((6 : Int32) * x1) + (2 : Int32))).toNatClampNeg)) J)))))) :
    mj_G Ω l false mX12_wantsOf d 0 0 Φ 0 0 99 ([some (.ref 91), some (.int x1), some (.int x2), some (.int x3), some (.int x4)], [], mk I J) := mj_blk (μ := mX12_wantsOf) (P := pX12_wantsOf_99) (cut := cutX12_wantsOf) (cs := csX12_wantsOf) dX12_wantsOf_99 csX12_wantsOf_ok hd 10 99 _ h
def pX12_wantsOf_111 : List (Nat × Instr × Nat) := [(111, .aload_n 0, 1), (112, .getfield 34, 3), (115, .iconst 3, 1), (116, .aload_n 0, 1), (117, .iload_n 1, 1), (118, .iconst 0, 1), (119, .invokevirtual 283, 3), (122, .iastore, 1), (123, .aload_n 0, 1)]
set_option maxRecDepth 100000 in
theorem dX12_wantsOf_111 : mj_pd cX12_wantsOf pX12_wantsOf_111 := mj_pdB (by decide +kernel)
set_option maxRecDepth 100000 in
set_option maxHeartbeats 4000000 in
theorem bX12_wantsOf_111 {Ω : mj_Om} {l : Launch} {d : Nat} {Φ : Option Value → mj_M → Prop} (hd : 6 ≤ d) (x1 : Int32) (x2 : Int32) (x3 : Int32) (x4 : Int32) (I : Nat → Nat → Int32) (J : Nat → Nat → Int64)
    (h : ((mj_gd (mj_inB (((6 : Int32) * x1) + (0 : Int32)) 49) (mj_G Ω l false mX12_wantsOf d 0 0 Φ 0 0 123 ([some (.ref 91), some (.int x1), some (.int x2), some (.int x3), some (.int x4)], [], (mk (mj_ui I 100 3 (I 106 ((((6 : Int32) * x1) + (0 : Int32))).toNatClampNeg)) J)))))) :
    mj_G Ω l false mX12_wantsOf d 0 0 Φ 0 0 111 ([some (.ref 91), some (.int x1), some (.int x2), some (.int x3), some (.int x4)], [], mk I J) := mj_blk (μ := mX12_wantsOf) (P := pX12_wantsOf_111) (cut := cutX12_wantsOf) (cs := csX12_wantsOf) dX12_wantsOf_111 csX12_wantsOf_ok hd 10 111 _ h
def pX12_wantsOf_123 : List (Nat × Instr × Nat) := [(123, .aload_n 0, 1), (124, .getfield 34, 3), (127, .iconst 4, 1), (128, .iload_n 3, 1), (129, .iastore, 1), (130, .aload_n 0, 1)]
set_option maxRecDepth 100000 in
theorem dX12_wantsOf_123 : mj_pd cX12_wantsOf pX12_wantsOf_123 := mj_pdB (by decide +kernel)
set_option maxRecDepth 100000 in
set_option maxHeartbeats 4000000 in
theorem bX12_wantsOf_123 {Ω : mj_Om} {l : Launch} {d : Nat} {Φ : Option Value → mj_M → Prop} (hd : 6 ≤ d) (x1 : Int32) (x2 : Int32) (x3 : Int32) (x4 : Int32) (I : Nat → Nat → Int32) (J : Nat → Nat → Int64)
    (h : ((mj_G Ω l false mX12_wantsOf d 0 0 Φ 0 0 130 ([some (.ref 91), some (.int x1), some (.int x2), some (.int x3), some (.int x4)], [], (mk (mj_ui I 100 4 x3) J))))) :
    mj_G Ω l false mX12_wantsOf d 0 0 Φ 0 0 123 ([some (.ref 91), some (.int x1), some (.int x2), some (.int x3), some (.int x4)], [], mk I J) := mj_blk (μ := mX12_wantsOf) (P := pX12_wantsOf_123) (cut := cutX12_wantsOf) (cs := csX12_wantsOf) dX12_wantsOf_123 csX12_wantsOf_ok hd 7 123 _ h
def pX12_wantsOf_130 : List (Nat × Instr × Nat) := [(130, .aload_n 0, 1), (131, .getfield 34, 3), (134, .iconst 5, 1), (135, .aload_n 0, 1), (136, .iload_n 1, 1), (137, .invokevirtual 297, 3), (140, .ifCond .eq 7, 3), (143, .iconst 1, 1), (144, .goto 4, 3), (147, .iconst 0, 1), (148, .iastore, 1), (149, .aload_n 0, 1)]
set_option maxRecDepth 100000 in
theorem dX12_wantsOf_130 : mj_pd cX12_wantsOf pX12_wantsOf_130 := mj_pdB (by decide +kernel)
set_option maxRecDepth 100000 in
set_option maxHeartbeats 4000000 in
theorem bX12_wantsOf_130 {Ω : mj_Om} {l : Launch} {d : Nat} {Φ : Option Value → mj_M → Prop} (hd : 6 ≤ d) (x1 : Int32) (x2 : Int32) (x3 : Int32) (x4 : Int32) (I : Nat → Nat → Int32) (J : Nat → Nat → Int64)
    (h : (((91 = 91 ∧ mj_isk (mk I J)) ∧ ((okM I ∧ isB (nM I) x1 ∧ colB (nM I) (VM I)) ∧ (if (b2i (shad (nM I) (VM I) (x1).toNatClampNeg)) = (0 : Int32) then (mj_G Ω l false mX12_wantsOf d 0 0 Φ 0 0 149 ([some (.ref 91), some (.int x1), some (.int x2), some (.int x3), some (.int x4)], [], (mk (mj_ui I 100 5 (0 : Int32)) J))) else (mj_G Ω l false mX12_wantsOf d 0 0 Φ 0 0 149 ([some (.ref 91), some (.int x1), some (.int x2), some (.int x3), some (.int x4)], [], (mk (mj_ui I 100 5 (1 : Int32)) J)))))))) :
    mj_G Ω l false mX12_wantsOf d 0 0 Φ 0 0 130 ([some (.ref 91), some (.int x1), some (.int x2), some (.int x3), some (.int x4)], [], mk I J) := mj_blk (μ := mX12_wantsOf) (P := pX12_wantsOf_130) (cut := cutX12_wantsOf) (cs := csX12_wantsOf) dX12_wantsOf_130 csX12_wantsOf_ok hd 13 130 _ h
def pX12_wantsOf_149 : List (Nat × Instr × Nat) := [(149, .aload_n 0, 1), (150, .getfield 34, 3), (153, .bipush 6, 2), (155, .aload_n 0, 1), (156, .iload_n 1, 1), (157, .invokevirtual 326, 3), (160, .ifCond .eq 7, 3), (163, .iconst 1, 1), (164, .goto 4, 3), (167, .iconst 0, 1), (168, .iastore, 1), (169, .aload_n 0, 1)]
set_option maxRecDepth 100000 in
theorem dX12_wantsOf_149 : mj_pd cX12_wantsOf pX12_wantsOf_149 := mj_pdB (by decide +kernel)
set_option maxRecDepth 100000 in
set_option maxHeartbeats 4000000 in
theorem bX12_wantsOf_149 {Ω : mj_Om} {l : Launch} {d : Nat} {Φ : Option Value → mj_M → Prop} (hd : 6 ≤ d) (x1 : Int32) (x2 : Int32) (x3 : Int32) (x4 : Int32) (I : Nat → Nat → Int32) (J : Nat → Nat → Int64)
    (h : (((91 = 91 ∧ mj_isk (mk I J)) ∧ (∃ b248 : Nat, x1 = nI b248 ∧ ((okM I ∧ b248 < nM I) ∧ (if (b2i (lee (nM I) (VM I) b248)) = (0 : Int32) then (mj_G Ω l false mX12_wantsOf d 0 0 Φ 0 0 169 ([some (.ref 91), some (.int x1), some (.int x2), some (.int x3), some (.int x4)], [], (mk (mj_ui I 100 6 (0 : Int32)) J))) else (mj_G Ω l false mX12_wantsOf d 0 0 Φ 0 0 169 ([some (.ref 91), some (.int x1), some (.int x2), some (.int x3), some (.int x4)], [], (mk (mj_ui I 100 6 (1 : Int32)) J))))))))) :
    mj_G Ω l false mX12_wantsOf d 0 0 Φ 0 0 149 ([some (.ref 91), some (.int x1), some (.int x2), some (.int x3), some (.int x4)], [], mk I J) := mj_blk (μ := mX12_wantsOf) (P := pX12_wantsOf_149) (cut := cutX12_wantsOf) (cs := csX12_wantsOf) dX12_wantsOf_149 csX12_wantsOf_ok hd 13 149 _ h
def pX12_wantsOf_169 : List (Nat × Instr × Nat) := [(169, .aload_n 0, 1), (170, .iload_n 2, 1), (171, .invokevirtual 329, 3), (174, .invokestatic 332, 3), (177, .ireturn, 1)]
set_option maxRecDepth 100000 in
theorem dX12_wantsOf_169 : mj_pd cX12_wantsOf pX12_wantsOf_169 := mj_pdB (by decide +kernel)
set_option maxRecDepth 100000 in
set_option maxHeartbeats 4000000 in
theorem bX12_wantsOf_169 {Ω : mj_Om} {l : Launch} {d : Nat} {Φ : Option Value → mj_M → Prop} (hd : 6 ≤ d) (x1 : Int32) (x2 : Int32) (x3 : Int32) (x4 : Int32) (I : Nat → Nat → Int32) (J : Nat → Nat → Int64)
    (h : (((91 = 91 ∧ mj_isk (mk I J)) ∧ (∃ r251 : Nat, x2 = nI r251 ∧ (∃ cs252 : List (List Int32 × List Int32), ((r251 ≤ 4 ∧ CLM I r251 cs252 ∧ letB (lv7 (I 100))) ∧ (∀ I253 : Nat → Nat → Int32, (fr (fun c _ => c = 101) I I253) → ((mj_isk (mk I253 J)) ∧ (Φ (some (.int (sgnI (Int32.ofInt (worthL (lv7 (I 100)) cs252))))) (mk I253 J)))))))))) :
    mj_G Ω l false mX12_wantsOf d 0 0 Φ 0 0 169 ([some (.ref 91), some (.int x1), some (.int x2), some (.int x3), some (.int x4)], [], mk I J) := mj_blk (μ := mX12_wantsOf) (P := pX12_wantsOf_169) (cut := cutX12_wantsOf) (cs := csX12_wantsOf) dX12_wantsOf_169 csX12_wantsOf_ok hd 6 169 _ h
def tX12_wantsOf : mj_PT := fun as M Φ => match as with
  | [.ref this, .int b_] => ((this = 91 ∧ mj_isk M) ∧ (∃ b : Nat, b_ = nI b ∧ (∃ u : Int, (∃ m : Nat, (∃ R : RF, ((u ≤ 1000 ∧ FM u M.2.2.1 ∧ RuM M.2.2.1 m R ∧ b < nM M.2.2.1) ∧ (∀ I1 : Nat → Nat → Int32, (fr (fun c _ => c = 100 ∨ c = 101) M.2.2.1 I1) → Φ (some (.int (sgnI (R (VM M.2.2.1 5 b) (lettV (nM M.2.2.1) (lv7 (M.2.2.1 104)) (VM M.2.2.1) (M.2.2.1 106 48) b))))) (M.1, M.2.1, I1, M.2.2.2))))))))
  | _ => False
set_option maxHeartbeats 8000000 in
theorem mnX12_wantsOf {Ω : mj_Om} {l : Launch} {d : Nat} {Φ : Option Value → mj_M → Prop} (hd : 6 ≤ d) (b : Nat) (u : Int) (m : Nat) (R : RF) (I : Nat → Nat → Int32) (J : Nat → Nat → Int64) (hp : u ≤ 1000 ∧ FM u I ∧ RuM I m R ∧ b < nM I) (h : ∀ I1 : Nat → Nat → Int32, (fr (fun c _ => c = 100 ∨ c = 101) I I1) → Φ (some (.int (sgnI (R (VM I 5 b) (lettV (nM I) (lv7 (I 104)) (VM I) (I 106 48) b))))) (mk I1 J)) : mj_Met Ω l false mX12_wantsOf d 0 0 [.ref 91, .int (nI b)] (mk I J) Φ := by
  refine inX12_wantsOf hd (nI b) I J ?_
  obtain ⟨hu, ⟨⟨hc, hn⟩, hF⟩, hR, hb⟩ := hp
  have hR2 := hR
  obtain ⟨K, ⟨h13, hm4, hCL⟩, hRe⟩ := hR2
  have hcb := FOk_col hF
  have r5 := VM_5 (I := I) hb
  simp (disch := omega) only [jn_in, jn_cl, gd_dec, n6_3]
  rw [← r5, h13]
  have no : ¬ (0 ≤ VM I 5 b ∧ VM I 5 b < nI m) → Φ (some (.int 0)) (mk I J) := by
    intro q
    have := h I fr_rf
    rw [hRe, rfK_0 q] at this
    exact this
  split
  · rename_i z; exact no (fun w => (in_r hm4).mpr w |>.1 z)
  rename_i z
  split
  · rename_i z2; exact no (fun w => (in_r hm4).mpr w |>.2 z2)
  rename_i z2
  obtain ⟨z3, z4⟩ := (in_r hm4).mp ⟨z, z2⟩
  have er := jn_of z3
  have hkm : (VM I 5 b).toNatClampNeg < m := by
    rw [er, jn_lt (cl_lt _) (by omega)] at z4
    exact z4
  generalize hrr : VM I 5 b = rr at *
  have rd : ∀ I'' : Nat → Nat → Int32, fr (fun c _ => c = 100) I I'' → okM I'' ∧ nM I'' = nM I ∧ VM I'' = VM I ∧ I'' 104 5 = lv7 (I 104) 5 ∧ I'' 106 48 = I 106 48 := by
    intro I'' hq
    obtain ⟨w1, w2, w3⟩ := MM_fr (I := I) (I1 := I'') (hq 91 22 (by (try dsimp only); omega)) (fun k => hq 105 k (by (try dsimp only); omega)) (fun k => hq 106 k (by (try dsimp only); omega))
    exact ⟨w3 ⟨hc, hn⟩, w1, w2, by rw [hq _ _ (by (try dsimp only); omega), lv7_at (by decide)], hq _ _ (by (try dsimp only); omega)⟩
  have up : ∀ (j : Nat) (I'' : Nat → Nat → Int32) (v : Int32), (fr (fun c _ => c = 100) I I'' ∧ ∀ a, a < j → I'' 100 a = lettV (nM I) (lv7 (I 104)) (VM I) (I 106 48) b a) → v = lettV (nM I) (lv7 (I 104)) (VM I) (I 106 48) b j → (fr (fun c _ => c = 100) I (mj_ui I'' 100 j v) ∧ ∀ a, a < j + 1 → (mj_ui I'' 100 j v) 100 a = lettV (nM I) (lv7 (I 104)) (VM I) (I 106 48) b a) := by
    intro j I'' v hP hv
    refine ⟨fr_ui hP.1 rfl, fun a ha => ?_⟩
    by_cases w : a = j
    · rw [w, ui_s, hv]
    · rw [ui_k w]; exact hP.2 a (by omega)
  have fin : ∀ (x4 : Int32) (A6 : Nat → Nat → Int32), (fr (fun c _ => c = 100) I A6 ∧ ∀ a, a < 7 → A6 100 a = lettV (nM I) (lv7 (I 104)) (VM I) (I 106 48) b a) → mj_G Ω l false mX12_wantsOf d 0 0 Φ 0 0 169 ([some (.ref 91), some (.int (nI b)), some (.int rr), some (.int (nI (nbs (nM I) (VM I) b))), some (.int x4)], [], mk A6 J) := by
    intro x4 A6 s6
    refine bX12_wantsOf_169 hd (nI b) rr (nI (nbs (nM I) (VM I) b)) x4 A6 J ?_
    have hlet := lv7_let s6.2
    rw [hlet]
    refine ⟨⟨by trivial, mj_isk_mk _ _⟩, rr.toNatClampNeg, er, K rr.toNatClampNeg, ⟨by omega, CLM_fr (hCL _ hkm) (fun c k h1 h2 => s6.1 c k (by (try dsimp only); omega)), lettV_b hu hn hF hb⟩, fun I9 h9 => ?_⟩
    refine ⟨mj_isk_mk _ _, ?_⟩
    have := h I9 (fun c k w => by (try dsimp only at w); rw [h9 c k (by (try dsimp only); omega), s6.1 c k (by (try dsimp only); omega)])
    rw [hRe] at this
    unfold rfK at this
    rwa [if_pos ⟨z3, z4⟩] at this
  have k149 : ∀ (x4 : Int32) (A5 : Nat → Nat → Int32), (fr (fun c _ => c = 100) I A5 ∧ ∀ a, a < 6 → A5 100 a = lettV (nM I) (lv7 (I 104)) (VM I) (I 106 48) b a) → mj_G Ω l false mX12_wantsOf d 0 0 Φ 0 0 149 ([some (.ref 91), some (.int (nI b)), some (.int rr), some (.int (nI (nbs (nM I) (VM I) b))), some (.int x4)], [], mk A5 J) := by
    intro x4 A5 s5
    refine bX12_wantsOf_149 hd (nI b) rr (nI (nbs (nM I) (VM I) b)) x4 A5 J ?_
    obtain ⟨w1, w2, w3, w4, w5⟩ := rd A5 s5.1
    refine ⟨⟨by trivial, mj_isk_mk _ _⟩, b, rfl, ⟨w1, by omega⟩, ?_⟩
    rw [w2, w3]
    split
    · rename_i y
      exact fin x4 _ (up 6 A5 _ s5 (show (0 : Int32) = _ from y.symm))
    · rename_i y
      rw [b2i_e0] at y
      exact fin x4 _ (up 6 A5 _ s5 (show (1 : Int32) = _ from (b2i_1 (Classical.not_not.mp y)).symm))
  have k130 : ∀ (x4 : Int32) (A4 : Nat → Nat → Int32), (fr (fun c _ => c = 100) I A4 ∧ ∀ a, a < 5 → A4 100 a = lettV (nM I) (lv7 (I 104)) (VM I) (I 106 48) b a) → mj_G Ω l false mX12_wantsOf d 0 0 Φ 0 0 130 ([some (.ref 91), some (.int (nI b)), some (.int rr), some (.int (nI (nbs (nM I) (VM I) b))), some (.int x4)], [], mk A4 J) := by
    intro x4 A4 s4
    refine bX12_wantsOf_130 hd (nI b) rr (nI (nbs (nM I) (VM I) b)) x4 A4 J ?_
    obtain ⟨w1, w2, w3, w4, w5⟩ := rd A4 s4.1
    refine ⟨⟨by trivial, mj_isk_mk _ _⟩, ⟨w1, isB_nI (by omega) (by omega), by rw [w2, w3]; exact hcb⟩, ?_⟩
    rw [w2, w3]
    simp (disch := omega) only [jn_cl]
    split
    · rename_i y
      exact k149 x4 _ (up 5 A4 _ s4 (show (0 : Int32) = _ from y.symm))
    · rename_i y
      rw [b2i_e0] at y
      exact k149 x4 _ (up 5 A4 _ s4 (show (1 : Int32) = _ from (b2i_1 (Classical.not_not.mp y)).symm))
  refine lp_cnt (G := fun i s => mj_G Ω l false mX12_wantsOf d 0 0 Φ 0 0 28 ([some (.ref 91), some (.int (nI b)), some (.int rr), some (.int (nI s)), some (.int (nI i))], [], mk I J)) (n := nM I) (fun i => ¬ i = b ∧ besd (VM I) b i) (fun i s hi hs h1 h0 => ?_) ?_
  · refine bX12_wantsOf_28 hd (nI b) rr (nI s) (nI i) I J ?_
    have hx := hcb i hi
    have hy := hcb b hb
    rw [VM_0 hi] at hx
    rw [VM_0 hb] at hy
    have ha := abs_sm hx hy
    unfold besd at h1 h0
    rw [VM_0 hi, VM_0 hb] at h1 h0
    rw [hc, if_pos (by rw [jn_lt (by omega) (by omega)]; exact hi)]
    by_cases q : i = b
    · rw [if_pos (by rw [q]), Int32.add_zero, jn_succ]
      exact h0 (fun w => w.1 q)
    · rw [if_neg (by rw [jn_eq (by omega) (by omega)]; exact q)]
      simp (disch := omega) only [jn_in, jn_cl, gd_dec, n6_0, jn_succ]
      simp only [Int32.add_zero]
      by_cases y : 1 < (if (0 : Int32) ≤ I 106 (6 * i) - I 106 (6 * b) then I 106 (6 * i) - I 106 (6 * b) else 0 - (I 106 (6 * i) - I 106 (6 * b)))
      · rw [if_pos y]
        rw [ha] at y
        exact h0 (fun w => y w.2)
      · rw [if_neg y]
        rw [ha] at y
        exact h1 ⟨q, Classical.not_not.mp y⟩
  · refine bX12_wantsOf_28 hd (nI b) rr (nI (nbs (nM I) (VM I) b)) (nI (nM I)) I J ?_
    rw [hc, if_neg (by rw [jn_lt (by omega) (by omega)]; omega)]
    refine ⟨⟨by trivial, mj_isk_mk _ _⟩, b, rfl, ⟨⟨hc, hn⟩, hb⟩, ?_⟩
    have s0 := up 0 I (blv (VM I) b) ⟨fr_rf, fun a ha => absurd ha (Nat.not_lt_zero a)⟩ rfl
    generalize (mj_ui I 100 0 (blv (VM I) b)) = A0 at s0 ⊢
    refine bX12_wantsOf_89 hd (nI b) rr (nI (nbs (nM I) (VM I) b)) (nI (nM I)) A0 J ?_
    obtain ⟨-, -, -, w5, w9⟩ := rd A0 s0.1
    rw [w5, w9]
    have s1 := up 1 A0 _ s0 (show lv7 (I 104) 5 - I 106 48 = _ from rfl)
    generalize (mj_ui A0 100 1 (lv7 (I 104) 5 - I 106 48)) = A1 at s1 ⊢
    refine bX12_wantsOf_99 hd (nI b) rr (nI (nbs (nM I) (VM I) b)) (nI (nM I)) A1 J ?_
    obtain ⟨-, wn, wV, -, -⟩ := rd A1 s1.1
    simp (disch := omega) only [jn_in, jn_cl, gd_dec, n6_2]
    rw [← VM_2 (I := A1) (b := b) (by omega), wV]
    have s2 := up 2 A1 _ s1 (show VM I 2 b = _ from rfl)
    generalize (mj_ui A1 100 2 (VM I 2 b)) = A2 at s2 ⊢
    refine bX12_wantsOf_111 hd (nI b) rr (nI (nbs (nM I) (VM I) b)) (nI (nM I)) A2 J ?_
    obtain ⟨-, wn2, wV2, -, -⟩ := rd A2 s2.1
    simp (disch := omega) only [jn_in, jn_cl, gd_dec, n6_0]
    rw [← VM_0 (I := A2) (b := b) (by omega), wV2]
    have s3 := up 3 A2 _ s2 (show VM I 0 b = _ from rfl)
    generalize (mj_ui A2 100 3 (VM I 0 b)) = A3 at s3 ⊢
    refine bX12_wantsOf_123 hd (nI b) rr (nI (nbs (nM I) (VM I) b)) (nI (nM I)) A3 J ?_
    exact k130 _ _ (up 4 A3 _ s3 (show nI (nbs (nM I) (VM I) b) = _ from rfl))
theorem sdX12_wantsOf : mj_Sd mX12_wantsOf 6 tX12_wantsOf := by
  intro Ω l d hd as M Φ h
  unfold tX12_wantsOf at h
  split at h
  · rename_i z_this b_
    obtain ⟨⟨rfl, hM⟩, b, rfl, u, m, R, hp, h⟩ := h
    rw [mj_isk_of hM]
    exact mnX12_wantsOf hd b u m R _ _ hp (by
      rw [mj_isk_of hM] at h
      exact h)
  · exact h.elim
