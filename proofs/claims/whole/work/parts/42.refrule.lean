/-! ===== the reference's rules: what one is worth (by program, wip/whole/pr.py) ===== -/
def encX (c v : Int) : Int := if c = 0 then v else if c = 1 then 10000 + v else if c = 9 then 20009 else if c = 10 then 20007 else if c = 11 then 20008 else 19998 + c
def cmR (c v x : Int32) : Prop := (0 ≤ c.toInt ∧ c.toInt ≤ 11) ∧ x.toInt = encX c.toInt v.toInt ∧ (c.toInt = 0 → 0 ≤ v.toInt ∧ v.toInt < 10000) ∧ (c.toInt = 1 → 0 ≤ v.toInt ∧ v.toInt < 7)
def wkP (c : Int32) (a b : Int64) : Prop := (2 ≤ c.toInt ∧ c.toInt ≤ 11 ∧ c.toInt ≠ 9) ∧ i6 a.toInt ∧ i6 b.toInt
noncomputable def wkW (c : Int32) (a b : Int64) : Int32 := hid (Int32.ofInt (bnd (jnI (encX c.toInt 0) a.toInt b.toInt)))
theorem wkW_eq (c : Int32) (a b : Int64) : wkW c a b = Int32.ofInt (bnd (jnI (encX c.toInt 0) a.toInt b.toInt)) := hid_eq _
theorem lc_0 (a b : Int64) : (lg_cmp a b = 0) = (a.toInt = b.toInt) := by
  unfold lg_cmp
  by_cases q : a > b
  · rw [if_pos q]; rw [gt_iff_lt, Int64.lt_iff_toInt_lt] at q; simp; omega
  · rw [if_neg q]
    by_cases z : a = b
    · rw [if_pos z, z]; simp
    · rw [if_neg z]; rw [← Int64.toInt_inj] at z; simp [z]
theorem lc_m (a b : Int64) : (lg_cmp a b < 0) = (a.toInt < b.toInt) := by
  unfold lg_cmp
  by_cases q : a > b
  · rw [if_pos q]; rw [gt_iff_lt, Int64.lt_iff_toInt_lt] at q; simp; omega
  · rw [if_neg q]; rw [gt_iff_lt, Int64.lt_iff_toInt_lt] at q
    by_cases z : a = b
    · rw [if_pos z, z]; simp
    · rw [if_neg z]; rw [← Int64.toInt_inj] at z; simp; omega
theorem lc_p (a b : Int64) : (0 < lg_cmp a b) = (b.toInt < a.toInt) := by
  unfold lg_cmp
  by_cases q : a > b
  · rw [if_pos q]; rw [gt_iff_lt, Int64.lt_iff_toInt_lt] at q; simp [q]
  · rw [if_neg q]; rw [gt_iff_lt, Int64.lt_iff_toInt_lt] at q
    by_cases z : a = b
    · rw [if_pos z, z]; simp
    · rw [if_neg z]; simp; omega
theorem l_add {a b : Int64} (ha : i6 a.toInt) (hb : i6 b.toInt) : (a + b).toInt = a.toInt + b.toInt := by
  obtain ⟨a1, a2⟩ := ha
  obtain ⟨b1, b2⟩ := hb
  rw [Int64.toInt_add]; exact Int.bmod_eq_of_le (by simp; omega) (by simp; omega)
theorem l_sub {a b : Int64} (ha : i6 a.toInt) (hb : i6 b.toInt) : (a - b).toInt = a.toInt - b.toInt := by
  obtain ⟨a1, a2⟩ := ha
  obtain ⟨b1, b2⟩ := hb
  rw [Int64.toInt_sub]; exact Int.bmod_eq_of_le (by simp; omega) (by simp; omega)
theorem l_mul {a b : Int64} (ha : i6 a.toInt) (hb : i6 b.toInt) : (a * b).toInt = a.toInt * b.toInt := by
  have h := mul_6 ha hb
  rw [Int64.toInt_mul]; exact Int.bmod_eq_of_le (by simp; omega) (by simp; omega)
theorem l_div {a b : Int64} (ha : i6 a.toInt) : (a / b).toInt = a.toInt.tdiv b.toInt := by
  have h := Int.natAbs_tdiv_le_natAbs a.toInt b.toInt
  obtain ⟨a1, a2⟩ := ha
  rw [Int64.toInt_div]; exact Int.bmod_eq_of_le (by simp; omega) (by simp; omega)
def csX12_bounded : List (Nat × Nat × Nat × mj_PT) := [(193, 1, 2, mj_ptmnl), (199, 1, 2, mj_ptmxl)]
theorem csX12_bounded_ok : mj_Cs mX12_bounded 2 csX12_bounded := (mj_Csmnl (Nat.le_of_ble_eq_true rfl) l12_193 (mj_Csmxl (Nat.le_of_ble_eq_true rfl) l12_199 mj_Cs0))
def cutX12_bounded : List (Nat × List Bool) := []
set_option maxRecDepth 100000 in
set_option maxHeartbeats 4000000 in
theorem inX12_bounded {Ω : mj_Om} {l : Launch} {d : Nat} {Φ : Option Value → mj_M → Prop} (hd : 2 ≤ d) (y : Int64) (I : Nat → Nat → Int32) (J : Nat → Nat → Int64)
    (h : ((Φ (some (.int (((if (if y < (1000000 : Int64) then y else (1000000 : Int64)) < (-1000000 : Int64) then (-1000000 : Int64) else (if y < (1000000 : Int64) then y else (1000000 : Int64)))).toInt32))) (mk I J)))) :
    mj_Met Ω l false mX12_bounded d 0 0 [.long y] (mk I J) Φ := mj_entry (by decide) rfl (fun h => (by cases h)) (Nat.le_of_ble_eq_true rfl) (mj_blk (μ := mX12_bounded) (P := pX12_bounded) (cut := cutX12_bounded) (cs := csX12_bounded) dX12_bounded csX12_bounded_ok hd 8 0 _ h)
def tX12_bounded : mj_PT := fun as M Φ => match as with
  | [.long y] => ((mj_isk M) ∧ Φ (some (.int (bndW y))) M)
  | _ => False
theorem mnX12_bounded {Ω : mj_Om} {l : Launch} {d : Nat} {Φ : Option Value → mj_M → Prop} (hd : 2 ≤ d) (y : Int64) (I : Nat → Nat → Int32) (J : Nat → Nat → Int64) (h : Φ (some (.int (bndW y))) (mk I J)) : mj_Met Ω l false mX12_bounded d 0 0 [.long y] (mk I J) Φ := by
  refine inX12_bounded hd y I J ?_
  rw [bndW_eq] at h
  have h' : ∀ r : Int32, r = Int32.ofInt (bnd y.toInt) → Φ (some (.int r)) (mk I J) := fun r hr => hr ▸ h
  refine h' _ ?_
  have l1 : (1000000 : Int64).toInt = 1000000 := rfl
  have l2 : (-1000000 : Int64).toInt = -1000000 := rfl
  unfold bnd
  by_cases q : y < 1000000
  · rw [if_pos q]
    rw [Int64.lt_iff_toInt_lt, l1] at q
    rw [if_neg (show ¬ 1000000 < y.toInt by omega)]
    by_cases z : y < -1000000
    · rw [if_pos z]
      rw [Int64.lt_iff_toInt_lt, l2] at z
      rw [if_pos z]
      decide
    · rw [if_neg z]
      rw [Int64.lt_iff_toInt_lt, l2] at z
      rw [if_neg z]
      rfl
  · rw [if_neg q, if_neg (by decide)]
    rw [Int64.lt_iff_toInt_lt, l1] at q
    by_cases z : 1000000 < y.toInt
    · rw [if_pos z]; decide
    · rw [if_neg z, if_neg (by omega), show y.toInt = 1000000 by omega]; decide
theorem sdX12_bounded : mj_Sd mX12_bounded 2 tX12_bounded := by
  intro Ω l d hd as M Φ h
  unfold tX12_bounded at h
  split at h
  · rename_i y
    obtain ⟨hM, h⟩ := h
    rw [mj_isk_of hM]
    exact mnX12_bounded hd y _ _ (by
      rw [mj_isk_of hM] at h
      exact h)
  · exact h.elim
def csX12_worked : List (Nat × Nat × Nat × mj_PT) := [(202, 1, 1, tX12_bounded)]
theorem csX12_worked_ok : mj_Cs mX12_worked 3 csX12_worked := (mj_CsS (D' := 2) sdX12_bounded (Nat.le_of_ble_eq_true rfl) fX12_bounded sX12_bounded (by decide +kernel) l12_202 mj_Cs0)
def cutX12_worked : List (Nat × List Bool) := []
def pX12_worked_0 : List (Nat × Instr × Nat) := [(0, .iload_n 0, 1), (1, .tableswitch 143 2 10 #[51, 58, 65, 72, 89, 101, 113, 143, 125], 51), (52, .lload_n 1, 1), (53, .lload_n 3, 1), (54, .ladd, 1), (55, .invokestatic 202, 3), (58, .ireturn, 1), (59, .lload_n 1, 1), (60, .lload_n 3, 1), (61, .lsub, 1), (62, .invokestatic 202, 3), (65, .ireturn, 1), (66, .lload_n 1, 1), (67, .lload_n 3, 1), (68, .lmul, 1), (69, .invokestatic 202, 3), (72, .ireturn, 1), (73, .lload_n 3, 1), (74, .lconst 0, 1), (75, .lcmp, 1), (76, .ifCond .ne 7, 3), (79, .iconst 0, 1), (80, .goto 9, 3), (83, .lload_n 1, 1), (84, .lload_n 3, 1), (85, .ldiv, 1), (86, .invokestatic 202, 3), (89, .ireturn, 1), (90, .lload_n 1, 1), (91, .lload_n 3, 1), (92, .lcmp, 1), (93, .ifCond .ne 7, 3), (96, .iconst 1, 1), (97, .goto 4, 3), (100, .iconst 0, 1), (101, .ireturn, 1), (102, .lload_n 1, 1), (103, .lload_n 3, 1), (104, .lcmp, 1), (105, .ifCond .ge 7, 3), (108, .iconst 1, 1), (109, .goto 4, 3), (112, .iconst 0, 1), (113, .ireturn, 1), (114, .lload_n 1, 1), (115, .lload_n 3, 1), (116, .lcmp, 1), (117, .ifCond .le 7, 3), (120, .iconst 1, 1), (121, .goto 4, 3), (124, .iconst 0, 1), (125, .ireturn, 1), (126, .lload_n 1, 1), (127, .lconst 0, 1), (128, .lcmp, 1), (129, .ifCond .eq 13, 3), (132, .lload_n 3, 1), (133, .lconst 0, 1), (134, .lcmp, 1), (135, .ifCond .eq 7, 3), (138, .iconst 1, 1), (139, .goto 4, 3), (142, .iconst 0, 1), (143, .ireturn, 1), (144, .lload_n 1, 1), (145, .lconst 0, 1), (146, .lcmp, 1), (147, .ifCond .ne 9, 3), (150, .lload_n 3, 1), (151, .lconst 0, 1), (152, .lcmp, 1), (153, .ifCond .eq 7, 3), (156, .iconst 1, 1), (157, .goto 4, 3), (160, .iconst 0, 1), (161, .ireturn, 1)]
set_option maxRecDepth 100000 in
theorem dX12_worked_0 : mj_pd cX12_worked pX12_worked_0 := mj_pdB (by decide +kernel)
set_option maxRecDepth 100000 in
set_option maxHeartbeats 4000000 in
theorem inX12_worked {Ω : mj_Om} {l : Launch} {d : Nat} {Φ : Option Value → mj_M → Prop} (hd : 3 ≤ d) (c : Int32) (a : Int64) (b : Int64) (I : Nat → Nat → Int32) (J : Nat → Nat → Int64)
    (h : ((if c = (2 : Int32) then ((mj_isk (mk I J)) ∧ (Φ (some (.int (bndW (a + b)))) (mk I J))) else (if c = (3 : Int32) then ((mj_isk (mk I J)) ∧ (Φ (some (.int (bndW (a - b)))) (mk I J))) else (if c = (4 : Int32) then ((mj_isk (mk I J)) ∧ (Φ (some (.int (bndW (a * b)))) (mk I J))) else (if c = (5 : Int32) then (if (lg_cmp b (0 : Int64)) = (0 : Int32) then (Φ (some (.int (0 : Int32))) (mk I J)) else (mj_gd (!decide (b = 0)) ((mj_isk (mk I J)) ∧ (Φ (some (.int (bndW (a / b)))) (mk I J))))) else (if c = (6 : Int32) then (if (lg_cmp a b) = (0 : Int32) then (Φ (some (.int (1 : Int32))) (mk I J)) else (Φ (some (.int (0 : Int32))) (mk I J))) else (if c = (7 : Int32) then (if (lg_cmp a b) < (0 : Int32) then (Φ (some (.int (1 : Int32))) (mk I J)) else (Φ (some (.int (0 : Int32))) (mk I J))) else (if c = (8 : Int32) then (if (0 : Int32) < (lg_cmp a b) then (Φ (some (.int (1 : Int32))) (mk I J)) else (Φ (some (.int (0 : Int32))) (mk I J))) else (if c = (9 : Int32) then (if (lg_cmp a (0 : Int64)) = (0 : Int32) then (if (lg_cmp b (0 : Int64)) = (0 : Int32) then (Φ (some (.int (0 : Int32))) (mk I J)) else (Φ (some (.int (1 : Int32))) (mk I J))) else (Φ (some (.int (1 : Int32))) (mk I J))) else (if c = (10 : Int32) then (if (lg_cmp a (0 : Int64)) = (0 : Int32) then (Φ (some (.int (0 : Int32))) (mk I J)) else (if (lg_cmp b (0 : Int64)) = (0 : Int32) then (Φ (some (.int (0 : Int32))) (mk I J)) else (Φ (some (.int (1 : Int32))) (mk I J)))) else (if (lg_cmp a (0 : Int64)) = (0 : Int32) then (if (lg_cmp b (0 : Int64)) = (0 : Int32) then (Φ (some (.int (0 : Int32))) (mk I J)) else (Φ (some (.int (1 : Int32))) (mk I J))) else (Φ (some (.int (1 : Int32))) (mk I J)))))))))))))) :
    mj_Met Ω l false mX12_worked d 0 0 [.int c, .long a, .long b] (mk I J) Φ := mj_entry (by decide) rfl (fun h => (by cases h)) (Nat.le_of_ble_eq_true rfl) (mj_blk (μ := mX12_worked) (P := pX12_worked_0) (cut := cutX12_worked) (cs := csX12_worked) dX12_worked_0 csX12_worked_ok hd 77 0 _ h)
def tX12_worked : mj_PT := fun as M Φ => match as with
  | [.int c, .long a, .long b] => ((mj_isk M) ∧ ((wkP c a b) ∧ Φ (some (.int (wkW c a b))) M))
  | _ => False
set_option maxHeartbeats 4000000 in
theorem mnX12_worked {Ω : mj_Om} {l : Launch} {d : Nat} {Φ : Option Value → mj_M → Prop} (hd : 3 ≤ d) (c : Int32) (a : Int64) (b : Int64) (I : Nat → Nat → Int32) (J : Nat → Nat → Int64) (hp : wkP c a b) (h : Φ (some (.int (wkW c a b))) (mk I J)) : mj_Met Ω l false mX12_worked d 0 0 [.int c, .long a, .long b] (mk I J) Φ := by
  refine inX12_worked hd c a b I J ?_
  obtain ⟨hc, ha, hb⟩ := hp
  rw [wkW_eq] at h
  have h' : ∀ r : Int32, r = Int32.ofInt (bnd (jnI (encX c.toInt 0) a.toInt b.toInt)) → Φ (some (.int r)) (mk I J) := fun r hr => hr ▸ h
  have cc : ∀ k : Nat, k < 100 → (c = nI k) = (c.toInt = (k : Int)) := by
    intro k hk
    rw [← Int32.toInt_inj, jn_toInt (by omega)]
  have c2 : (c = 2) = (c.toInt = 2) := cc 2 (by decide)
  have c3 : (c = 3) = (c.toInt = 3) := cc 3 (by decide)
  have c4 : (c = 4) = (c.toInt = 4) := cc 4 (by decide)
  have c5 : (c = 5) = (c.toInt = 5) := cc 5 (by decide)
  have c6 : (c = 6) = (c.toInt = 6) := cc 6 (by decide)
  have c7 : (c = 7) = (c.toInt = 7) := cc 7 (by decide)
  have c8 : (c = 8) = (c.toInt = 8) := cc 8 (by decide)
  have c9 : (c = 9) = (c.toInt = 9) := cc 9 (by decide)
  have c10 : (c = 10) = (c.toInt = 10) := cc 10 (by decide)
  have l0 : (0 : Int64).toInt = 0 := rfl
  simp only [c2, c3, c4, c5, c6, c7, c8, c9, c10, lc_0, lc_m, lc_p, l0]
  have b0 : bnd 0 = 0 := rfl
  have b1 : bnd 1 = 1 := rfl
  by_cases q2 : c.toInt = 2
  · rw [if_pos q2]; exact ⟨mj_isk_mk _ _, h' _ (by rw [bndW_eq, l_add ha hb, q2]; rfl)⟩
  rw [if_neg q2]
  by_cases q3 : c.toInt = 3
  · rw [if_pos q3]; exact ⟨mj_isk_mk _ _, h' _ (by rw [bndW_eq, l_sub ha hb, q3]; rfl)⟩
  rw [if_neg q3]
  by_cases q4 : c.toInt = 4
  · rw [if_pos q4]; exact ⟨mj_isk_mk _ _, h' _ (by rw [bndW_eq, l_mul ha hb, q4]; rfl)⟩
  rw [if_neg q4]
  by_cases q5 : c.toInt = 5
  · rw [if_pos q5]
    have e : jnI (encX c.toInt 0) a.toInt b.toInt = if b.toInt = 0 then 0 else a.toInt.tdiv b.toInt := by rw [q5]; rfl
    rw [e] at h'
    by_cases z : b.toInt = 0
    · rw [if_pos z]; exact h' _ (by rw [if_pos z]; rfl)
    · rw [if_neg z]
      have z2 : ¬ b = 0 := fun w => z (by rw [w]; rfl)
      simp only [z2, decide_false, Bool.not_false, gd_true]
      exact ⟨mj_isk_mk _ _, h' _ (by rw [bndW_eq, l_div ha, if_neg z])⟩
  rw [if_neg q5]
  by_cases q6 : c.toInt = 6
  · rw [if_pos q6]
    have e : jnI (encX c.toInt 0) a.toInt b.toInt = if a.toInt = b.toInt then 1 else 0 := by rw [q6]; rfl
    rw [e] at h'
    split
    · rename_i z; exact h' _ (by rw [if_pos z]; rfl)
    · rename_i z; exact h' _ (by rw [if_neg z]; rfl)
  rw [if_neg q6]
  by_cases q7 : c.toInt = 7
  · rw [if_pos q7]
    have e : jnI (encX c.toInt 0) a.toInt b.toInt = if a.toInt < b.toInt then 1 else 0 := by rw [q7]; rfl
    rw [e] at h'
    split
    · rename_i z; exact h' _ (by rw [if_pos z]; rfl)
    · rename_i z; exact h' _ (by rw [if_neg z]; rfl)
  rw [if_neg q7]
  by_cases q8 : c.toInt = 8
  · rw [if_pos q8]
    have e : jnI (encX c.toInt 0) a.toInt b.toInt = if b.toInt < a.toInt then 1 else 0 := by rw [q8]; rfl
    rw [e] at h'
    split
    · rename_i z; exact h' _ (by rw [if_pos z]; rfl)
    · rename_i z; exact h' _ (by rw [if_neg z]; rfl)
  rw [if_neg q8, if_neg hc.2.2]
  by_cases q10 : c.toInt = 10
  · rw [if_pos q10]
    have e : jnI (encX c.toInt 0) a.toInt b.toInt = if a.toInt ≠ 0 ∧ b.toInt ≠ 0 then 1 else 0 := by rw [q10]; rfl
    rw [e] at h'
    split
    · rename_i z; exact h' _ (by rw [if_neg (fun w => w.1 z)]; rfl)
    · rename_i z
      split
      · rename_i z2; exact h' _ (by rw [if_neg (fun w => w.2 z2)]; rfl)
      · rename_i z2; exact h' _ (by rw [if_pos ⟨z, z2⟩]; rfl)
  rw [if_neg q10]
  have q11 : c.toInt = 11 := by omega
  have e : jnI (encX c.toInt 0) a.toInt b.toInt = if a.toInt ≠ 0 ∨ b.toInt ≠ 0 then 1 else 0 := by rw [q11]; rfl
  rw [e] at h'
  split
  · rename_i z
    split
    · rename_i z2; exact h' _ (by rw [if_neg (by simp [z, z2])]; rfl)
    · rename_i z2; exact h' _ (by rw [if_pos (Or.inr z2)]; rfl)
  · rename_i z; exact h' _ (by rw [if_pos (Or.inl z)]; rfl)
theorem sdX12_worked : mj_Sd mX12_worked 3 tX12_worked := by
  intro Ω l d hd as M Φ h
  unfold tX12_worked at h
  split at h
  · rename_i c a b
    obtain ⟨hM, hp, h⟩ := h
    rw [mj_isk_of hM]
    exact mnX12_worked hd c a b _ _ hp (by
      rw [mj_isk_of hM] at h
      exact h)
  · exact h.elim
def csX12_workOut : List (Nat × Nat × Nat × mj_PT) := [(206, 1, 3, tX12_worked)]
theorem csX12_workOut_ok : mj_Cs mX12_workOut 4 csX12_workOut := (mj_CsS (D' := 3) sdX12_worked (Nat.le_of_ble_eq_true rfl) fX12_worked sX12_worked (by decide +kernel) l12_206 mj_Cs0)
def cutX12_workOut : List (Nat × List Bool) := [(12, [true, true, true, true, true, true]), (45, [true, true, true, true, true, true]), (90, [true, true, true, true, true, true]), (128, [true, true, true, true, true, true]), (165, [true, true, true, true, true, true])]
def pX12_workOut_0 : List (Nat × Instr × Nat) := [(0, .iconst 0, 1), (1, .istore 4, 2), (3, .sipush 520, 3), (6, .iload_n 1, 1), (7, .imul, 1), (8, .iload_n 2, 1), (9, .iadd, 1), (10, .istore 5, 2), (12, .iload 5, 2)]
set_option maxRecDepth 100000 in
theorem dX12_workOut_0 : mj_pd cX12_workOut pX12_workOut_0 := mj_pdB (by decide +kernel)
set_option maxRecDepth 100000 in
set_option maxHeartbeats 4000000 in
theorem inX12_workOut {Ω : mj_Om} {l : Launch} {d : Nat} {Φ : Option Value → mj_M → Prop} (hd : 4 ≤ d) (n_ : Int32) (a_ : Int32) (b_ : Int32) (I : Nat → Nat → Int32) (J : Nat → Nat → Int64)
    (h : ((mj_G Ω l false mX12_workOut d 0 0 Φ 0 0 12 ([some (.ref 91), some (.int n_), some (.int a_), some (.int b_), some (.int (0 : Int32)), some (.int (((520 : Int32) * n_) + a_))], [], (mk I J))))) :
    mj_Met Ω l false mX12_workOut d 0 0 [.ref 91, .int n_, .int a_, .int b_] (mk I J) Φ := mj_entry (by decide) rfl (fun h => (by cases h)) (Nat.le_of_ble_eq_true rfl) (mj_blk (μ := mX12_workOut) (P := pX12_workOut_0) (cut := cutX12_workOut) (cs := csX12_workOut) dX12_workOut_0 csX12_workOut_ok hd 10 0 _ h)
def pX12_workOut_12 : List (Nat × Instr × Nat) := [(12, .iload 5, 2), (14, .sipush 520, 3), (17, .iload_n 1, 1), (18, .imul, 1), (19, .iload_n 3, 1), (20, .iadd, 1), (21, .if_icmp .ge 150, 3), (24, .aload_n 0, 1), (25, .getfield 13, 3), (28, .iload 5, 2), (30, .iaload, 1), (31, .ifCond .eq 14, 3), (34, .aload_n 0, 1), (35, .getfield 13, 3), (38, .iload 5, 2), (40, .iaload, 1), (41, .iconst 1, 1), (42, .if_icmp .ne 48, 3), (45, .aload_n 0, 1), (90, .aload_n 0, 1), (171, .aload_n 0, 1), (172, .getfield 37, 3), (175, .iconst 0, 1), (176, .iaload, 1), (177, .ireturn, 1)]
set_option maxRecDepth 100000 in
theorem dX12_workOut_12 : mj_pd cX12_workOut pX12_workOut_12 := mj_pdB (by decide +kernel)
set_option maxRecDepth 100000 in
set_option maxHeartbeats 4000000 in
theorem bX12_workOut_12 {Ω : mj_Om} {l : Launch} {d : Nat} {Φ : Option Value → mj_M → Prop} (hd : 4 ≤ d) (x1 : Int32) (x2 : Int32) (x3 : Int32) (x4 : Int32) (x5 : Int32) (I : Nat → Nat → Int32) (J : Nat → Nat → Int64)
    (h : ((if x5 < (((520 : Int32) * x1) + x3) then (mj_gd (mj_inB x5 2600) (if (I 93 (x5).toNatClampNeg) = (0 : Int32) then (mj_G Ω l false mX12_workOut d 0 0 Φ 0 0 45 ([some (.ref 91), some (.int x1), some (.int x2), some (.int x3), some (.int x4), some (.int x5)], [], (mk I J))) else (mj_gd (mj_inB x5 2600) (if (I 93 (x5).toNatClampNeg) = (1 : Int32) then (mj_G Ω l false mX12_workOut d 0 0 Φ 0 0 45 ([some (.ref 91), some (.int x1), some (.int x2), some (.int x3), some (.int x4), some (.int x5)], [], (mk I J))) else (mj_G Ω l false mX12_workOut d 0 0 Φ 0 0 90 ([some (.ref 91), some (.int x1), some (.int x2), some (.int x3), some (.int x4), some (.int x5)], [], (mk I J))))))) else (Φ (some (.int (I 101 0))) (mk I J))))) :
    mj_G Ω l false mX12_workOut d 0 0 Φ 0 0 12 ([some (.ref 91), some (.int x1), some (.int x2), some (.int x3), some (.int x4), some (.int x5)], [], mk I J) := mj_blk (μ := mX12_workOut) (P := pX12_workOut_12) (cut := cutX12_workOut) (cs := csX12_workOut) dX12_workOut_12 csX12_workOut_ok hd 26 12 _ h
def pX12_workOut_45 : List (Nat × Instr × Nat) := [(45, .aload_n 0, 1), (46, .getfield 37, 3), (49, .iload 4, 2), (51, .aload_n 0, 1), (52, .getfield 13, 3), (55, .iload 5, 2), (57, .iaload, 1), (58, .ifCond .ne 13, 3), (61, .aload_n 0, 1), (62, .getfield 16, 3), (65, .iload 5, 2), (67, .iaload, 1), (68, .goto 15, 3), (71, .aload_n 0, 1), (72, .getfield 34, 3), (75, .aload_n 0, 1), (76, .getfield 16, 3), (79, .iload 5, 2), (81, .iaload, 1), (82, .iaload, 1), (83, .iastore, 1), (84, .iinc 4 1, 3), (87, .goto 78, 3), (165, .iinc 5 1, 3)]
set_option maxRecDepth 100000 in
theorem dX12_workOut_45 : mj_pd cX12_workOut pX12_workOut_45 := mj_pdB (by decide +kernel)
set_option maxRecDepth 100000 in
set_option maxHeartbeats 4000000 in
theorem bX12_workOut_45 {Ω : mj_Om} {l : Launch} {d : Nat} {Φ : Option Value → mj_M → Prop} (hd : 4 ≤ d) (x1 : Int32) (x2 : Int32) (x3 : Int32) (x4 : Int32) (x5 : Int32) (I : Nat → Nat → Int32) (J : Nat → Nat → Int64)
    (h : ((mj_gd (mj_inB x5 2600) (if (I 93 (x5).toNatClampNeg) = (0 : Int32) then (mj_gd (mj_inB x5 2600) (mj_gd (mj_inB x4 80) (mj_G Ω l false mX12_workOut d 0 0 Φ 0 0 165 ([some (.ref 91), some (.int x1), some (.int x2), some (.int x3), some (.int (x4 + (1 : Int32))), some (.int x5)], [], (mk (mj_ui I 101 (x4).toNatClampNeg (I 94 (x5).toNatClampNeg)) J))))) else (mj_gd (mj_inB x5 2600) (mj_gd (mj_inB (I 94 (x5).toNatClampNeg) 7) (mj_gd (mj_inB x4 80) (mj_G Ω l false mX12_workOut d 0 0 Φ 0 0 165 ([some (.ref 91), some (.int x1), some (.int x2), some (.int x3), some (.int (x4 + (1 : Int32))), some (.int x5)], [], (mk (mj_ui I 101 (x4).toNatClampNeg (I 100 ((I 94 (x5).toNatClampNeg)).toNatClampNeg)) J)))))))))) :
    mj_G Ω l false mX12_workOut d 0 0 Φ 0 0 45 ([some (.ref 91), some (.int x1), some (.int x2), some (.int x3), some (.int x4), some (.int x5)], [], mk I J) := mj_blk (μ := mX12_workOut) (P := pX12_workOut_45) (cut := cutX12_workOut) (cs := csX12_workOut) dX12_workOut_45 csX12_workOut_ok hd 25 45 _ h
def pX12_workOut_90 : List (Nat × Instr × Nat) := [(90, .aload_n 0, 1), (91, .getfield 13, 3), (94, .iload 5, 2), (96, .iaload, 1), (97, .bipush 9, 2), (99, .if_icmp .ne 26, 3), (102, .aload_n 0, 1), (103, .getfield 37, 3), (106, .iload 4, 2), (108, .iconst 1, 1), (109, .isub, 1), (110, .iconst 1, 1), (111, .aload_n 0, 1), (112, .getfield 37, 3), (115, .iload 4, 2), (117, .iconst 1, 1), (118, .isub, 1), (119, .iaload, 1), (120, .isub, 1), (121, .iastore, 1), (122, .goto 43, 3), (125, .iinc 4 (-1), 3), (128, .aload_n 0, 1), (165, .iinc 5 1, 3)]
set_option maxRecDepth 100000 in
theorem dX12_workOut_90 : mj_pd cX12_workOut pX12_workOut_90 := mj_pdB (by decide +kernel)
set_option maxRecDepth 100000 in
set_option maxHeartbeats 4000000 in
theorem bX12_workOut_90 {Ω : mj_Om} {l : Launch} {d : Nat} {Φ : Option Value → mj_M → Prop} (hd : 4 ≤ d) (x1 : Int32) (x2 : Int32) (x3 : Int32) (x4 : Int32) (x5 : Int32) (I : Nat → Nat → Int32) (J : Nat → Nat → Int64)
    (h : ((mj_gd (mj_inB x5 2600) (if (I 93 (x5).toNatClampNeg) = (9 : Int32) then (mj_gd (mj_inB (x4 - (1 : Int32)) 80) (mj_gd (mj_inB (x4 - (1 : Int32)) 80) (mj_G Ω l false mX12_workOut d 0 0 Φ 0 0 165 ([some (.ref 91), some (.int x1), some (.int x2), some (.int x3), some (.int x4), some (.int x5)], [], (mk (mj_ui I 101 ((x4 - (1 : Int32))).toNatClampNeg ((1 : Int32) - (I 101 ((x4 - (1 : Int32))).toNatClampNeg))) J))))) else (mj_G Ω l false mX12_workOut d 0 0 Φ 0 0 128 ([some (.ref 91), some (.int x1), some (.int x2), some (.int x3), some (.int (x4 + (-1 : Int32))), some (.int x5)], [], (mk I J))))))) :
    mj_G Ω l false mX12_workOut d 0 0 Φ 0 0 90 ([some (.ref 91), some (.int x1), some (.int x2), some (.int x3), some (.int x4), some (.int x5)], [], mk I J) := mj_blk (μ := mX12_workOut) (P := pX12_workOut_90) (cut := cutX12_workOut) (cs := csX12_workOut) dX12_workOut_90 csX12_workOut_ok hd 25 90 _ h
def pX12_workOut_128 : List (Nat × Instr × Nat) := [(128, .aload_n 0, 1), (129, .getfield 37, 3), (132, .iload 4, 2), (134, .iconst 1, 1), (135, .isub, 1), (136, .aload_n 0, 1), (137, .getfield 13, 3), (140, .iload 5, 2), (142, .iaload, 1), (143, .aload_n 0, 1), (144, .getfield 37, 3), (147, .iload 4, 2), (149, .iconst 1, 1), (150, .isub, 1), (151, .iaload, 1), (152, .i2l, 1), (153, .aload_n 0, 1), (154, .getfield 37, 3), (157, .iload 4, 2), (159, .iaload, 1), (160, .i2l, 1), (161, .invokestatic 206, 3), (164, .iastore, 1), (165, .iinc 5 1, 3)]
set_option maxRecDepth 100000 in
theorem dX12_workOut_128 : mj_pd cX12_workOut pX12_workOut_128 := mj_pdB (by decide +kernel)
set_option maxRecDepth 100000 in
set_option maxHeartbeats 4000000 in
theorem bX12_workOut_128 {Ω : mj_Om} {l : Launch} {d : Nat} {Φ : Option Value → mj_M → Prop} (hd : 4 ≤ d) (x1 : Int32) (x2 : Int32) (x3 : Int32) (x4 : Int32) (x5 : Int32) (I : Nat → Nat → Int32) (J : Nat → Nat → Int64)
    (h : ((mj_gd (mj_inB x5 2600) (mj_gd (mj_inB (x4 - (1 : Int32)) 80) (mj_gd (mj_inB x4 80) ((mj_isk (mk I J)) ∧ ((wkP (I 93 (x5).toNatClampNeg) (((I 101 ((x4 - (1 : Int32))).toNatClampNeg)).toInt64) (((I 101 (x4).toNatClampNeg)).toInt64)) ∧ (mj_gd (mj_inB (x4 - (1 : Int32)) 80) (mj_G Ω l false mX12_workOut d 0 0 Φ 0 0 165 ([some (.ref 91), some (.int x1), some (.int x2), some (.int x3), some (.int x4), some (.int x5)], [], (mk (mj_ui I 101 ((x4 - (1 : Int32))).toNatClampNeg (wkW (I 93 (x5).toNatClampNeg) (((I 101 ((x4 - (1 : Int32))).toNatClampNeg)).toInt64) (((I 101 (x4).toNatClampNeg)).toInt64))) J))))))))))) :
    mj_G Ω l false mX12_workOut d 0 0 Φ 0 0 128 ([some (.ref 91), some (.int x1), some (.int x2), some (.int x3), some (.int x4), some (.int x5)], [], mk I J) := mj_blk (μ := mX12_workOut) (P := pX12_workOut_128) (cut := cutX12_workOut) (cs := csX12_workOut) dX12_workOut_128 csX12_workOut_ok hd 25 128 _ h
def pX12_workOut_165 : List (Nat × Instr × Nat) := [(12, .iload 5, 2), (165, .iinc 5 1, 3), (168, .goto (-156), 3)]
set_option maxRecDepth 100000 in
theorem dX12_workOut_165 : mj_pd cX12_workOut pX12_workOut_165 := mj_pdB (by decide +kernel)
set_option maxRecDepth 100000 in
set_option maxHeartbeats 4000000 in
theorem bX12_workOut_165 {Ω : mj_Om} {l : Launch} {d : Nat} {Φ : Option Value → mj_M → Prop} (hd : 4 ≤ d) (x1 : Int32) (x2 : Int32) (x3 : Int32) (x4 : Int32) (x5 : Int32) (I : Nat → Nat → Int32) (J : Nat → Nat → Int64)
    (h : ((mj_G Ω l false mX12_workOut d 0 0 Φ 0 0 12 ([some (.ref 91), some (.int x1), some (.int x2), some (.int x3), some (.int x4), some (.int (x5 + (1 : Int32)))], [], (mk I J))))) :
    mj_G Ω l false mX12_workOut d 0 0 Φ 0 0 165 ([some (.ref 91), some (.int x1), some (.int x2), some (.int x3), some (.int x4), some (.int x5)], [], mk I J) := mj_blk (μ := mX12_workOut) (P := pX12_workOut_165) (cut := cutX12_workOut) (cs := csX12_workOut) dX12_workOut_165 csX12_workOut_ok hd 4 165 _ h
def tX12_workOut : mj_PT := fun as M Φ => match as with
  | [.ref this, .int n_, .int a_, .int b_] => ((this = 91 ∧ mj_isk M) ∧ (∃ n : Nat, n_ = nI n ∧ (∃ a : Nat, a_ = nI a ∧ (∃ b : Nat, b_ = nI b ∧ (∃ ys : List Int32, (∃ kd : Bool, (((n ≤ 4 ∧ b = a + ys.length ∧ b ≤ 520) ∧ (∀ j, j < ys.length → cmR (M.2.2.1 93 (520 * n + a + j)) (M.2.2.1 94 (520 * n + a + j)) (ys.getD j 0)) ∧ tyL ys [] = some [kd] ∧ letB (lv7 (M.2.2.1 100))) ∧ (∀ I1 : Nat → Nat → Int32, (fr (fun c _ => c = 101) M.2.2.1 I1) → Φ (some (.int (Int32.ofInt (valC (lv7 (M.2.2.1 100)) ys)))) (M.1, M.2.1, I1, M.2.2.2)))))))))
  | _ => False
set_option maxHeartbeats 8000000 in
theorem mnX12_workOut {Ω : mj_Om} {l : Launch} {d : Nat} {Φ : Option Value → mj_M → Prop} (hd : 4 ≤ d) (n : Nat) (a : Nat) (b : Nat) (ys : List Int32) (kd : Bool) (I : Nat → Nat → Int32) (J : Nat → Nat → Int64) (hp : (n ≤ 4 ∧ b = a + ys.length ∧ b ≤ 520) ∧ (∀ j, j < ys.length → cmR (I 93 (520 * n + a + j)) (I 94 (520 * n + a + j)) (ys.getD j 0)) ∧ tyL ys [] = some [kd] ∧ letB (lv7 (I 100))) (h : ∀ I1 : Nat → Nat → Int32, (fr (fun c _ => c = 101) I I1) → Φ (some (.int (Int32.ofInt (valC (lv7 (I 100)) ys)))) (mk I1 J)) : mj_Met Ω l false mX12_workOut d 0 0 [.ref 91, .int (nI n), .int (nI a), .int (nI b)] (mk I J) Φ := by
  refine inX12_workOut hd (nI n) (nI a) (nI b) I J ?_
  obtain ⟨⟨hn, hb, hb2⟩, hcm, hty, hL⟩ := hp
  generalize hLL : lv7 (I 100) = L at *
  have e5 : ∀ x : Nat, (520 : Int32) * nI n + nI x = nI (520 * n + x) := fun x => by rw [show (520 : Int32) = nI 520 from rfl, jn_mul, jn_add]
  have run : ∀ (xs : List Int32) (p : Nat) (st : List Int) (ks ks2 : List Bool) (I' : Nat → Nat → Int32), fr (fun c _ => c = 101) I I' → p + xs.length = 520 * n + b → (∀ j, j < xs.length → cmR (I 93 (p + j)) (I 94 (p + j)) (xs.getD j 0)) → tyL xs ks = some ks2 → ks.length ≤ 30 → stK ks st → pil I' 101 st → (∀ I2, fr (fun c _ => c = 101) I I2 → pil I2 101 (exC L xs st) → mj_G Ω l false mX12_workOut d 0 0 Φ 0 0 12 ([some (.ref 91), some (.int (nI n)), some (.int (nI a)), some (.int (nI b)), some (.int (nI (exC L xs st).length)), some (.int (nI (520 * n + b)))], [], mk I2 J)) → mj_G Ω l false mX12_workOut d 0 0 Φ 0 0 12 ([some (.ref 91), some (.int (nI n)), some (.int (nI a)), some (.int (nI b)), some (.int (nI st.length)), some (.int (nI p))], [], mk I' J) := by
    intro xs
    induction xs with
    | nil => intro p st ks ks2 I' hfr hp2 _ _ _ _ hpl hg; simp only [List.length_nil, Nat.add_zero] at hp2; rw [hp2]; exact hg I' hfr hpl
    | cons x xs ih =>
      intro p st ks ks2 I' hfr hN2 hcd hty hk30 hst hpl hg
      simp only [List.length_cons] at hN2
      obtain ⟨k3, hk3, hty⟩ := tyL_c hty
      have hx := hcd 0 (by simp)
      simp only [Nat.add_zero, List.getD_cons_zero] at hx
      have hlen := stK_len hst
      have hst30 : st.length ≤ 30 := by omega
      have r93 : I' 93 p = I 93 p := hfr 93 p (by (try dsimp only); omega)
      have r94 : I' 94 p = I 94 p := hfr 94 p (by (try dsimp only); omega)
      obtain ⟨hc1, hc2, hc3, hc4⟩ := hx
      have nxt : ∀ I2 : Nat → Nat → Int32, fr (fun c _ => c = 101) I I2 → pil I2 101 (stC L x st) → mj_G Ω l false mX12_workOut d 0 0 Φ 0 0 165 ([some (.ref 91), some (.int (nI n)), some (.int (nI a)), some (.int (nI b)), some (.int (nI (stC L x st).length)), some (.int (nI p))], [], mk I2 J) := by
        intro I2 hfr2 hp2
        refine bX12_workOut_165 hd (nI n) (nI a) (nI b) (nI (stC L x st).length) (nI p) I2 J ?_
        rw [jn_succ]
        refine ih (p + 1) (stC L x st) k3 ks2 I2 hfr2 (by omega) (fun j hj => ?_) hty (tyS_len hk3 hk30) (stK_st hL hk3 hst) hp2 hg
        have := hcd (j + 1) (by simp; omega)
        rw [show p + 1 + j = p + (j + 1) by omega]
        simpa using this
      have cc : ∀ k : Nat, k < 100 → (I 93 p = nI k) = ((I 93 p).toInt = (k : Int)) := by
        intro k hk
        rw [← Int32.toInt_inj, jn_toInt (by omega)]
      have c0 : (I 93 p = 0) = ((I 93 p).toInt = 0) := cc 0 (by decide)
      have c1 : (I 93 p = 1) = ((I 93 p).toInt = 1) := cc 1 (by decide)
      have c9 : (I 93 p = 9) = ((I 93 p).toInt = 9) := cc 9 (by decide)
      refine bX12_workOut_12 hd (nI n) (nI a) (nI b) (nI st.length) (nI p) I' J ?_
      rw [e5, if_pos (by rw [jn_lt (by omega) (by omega)]; omega)]
      simp (disch := omega) only [jn_in, jn_cl, gd_dec, r93, c0, c1]
      rcases tyS_c hk3 with ⟨h1, h2, h3, rfl⟩ | ⟨h1, r, rfl, rfl⟩ | ⟨h1, h2, r, kk, k2, rfl, rfl, h3, h4⟩
      · have hcc : (I 93 p).toInt = 0 ∨ (I 93 p).toInt = 1 := by
          unfold encX at hc2
          by_cases w0 : (I 93 p).toInt = 0
          · exact Or.inl w0
          by_cases w1 : (I 93 p).toInt = 1
          · exact Or.inr w1
          rw [if_neg w0, if_neg w1] at hc2
          split at hc2
          · omega
          split at hc2
          · omega
          split at hc2 <;> omega
        have k45 : mj_G Ω l false mX12_workOut d 0 0 Φ 0 0 45 ([some (.ref 91), some (.int (nI n)), some (.int (nI a)), some (.int (nI b)), some (.int (nI st.length)), some (.int (nI p))], [], mk I' J) := by
          refine bX12_workOut_45 hd (nI n) (nI a) (nI b) (nI st.length) (nI p) I' J ?_
          simp (disch := omega) only [jn_in, jn_cl, gd_dec, r93, r94, c0]
          rcases hcc with w | w
          · rw [if_pos w]
            have hv := hc3 w
            have ex : x = I 94 p := Int32.toInt_inj.mp (by rw [hc2, w]; rfl)
            have e : stC L x st = (I 94 p).toInt :: st := by unfold stC; rw [ex, if_pos hv.2]
            rw [e] at nxt
            rw [jn_succ]
            exact nxt _ (fr_ui hfr rfl) ⟨by rw [ui_s, Int32.ofInt_toInt], pil_up hpl (Nat.le_refl _)⟩
          · rw [if_neg (by omega)]
            have hv := hc4 w
            have ex : x.toInt = 10000 + (I 94 p).toInt := by rw [hc2, w]; rfl
            have e : stC L x st = (L (I 94 p).toNatClampNeg).toInt :: st := by
              unfold stC
              rw [if_neg (by omega), if_pos (by omega), show (x.toInt - 10000).toNat = (I 94 p).toNatClampNeg by rw [Int32.toNatClampNeg]; omega]
            rw [e] at nxt
            have hcl : (I 94 p).toNatClampNeg = (I 94 p).toInt.toNat := rfl
            have hin : mj_inB (I 94 p) 7 = true := by
              rw [mj_inB]
              simp only [Bool.and_eq_true, decide_eq_true_eq]
              exact ⟨by rw [Int32.le_iff_toInt_le, i_0]; omega, by omega⟩
            simp (disch := omega) only [hin, gd_true, jn_in, jn_cl, gd_dec, jn_succ]
            refine nxt _ (fr_ui hfr rfl) ⟨?_, pil_up hpl (Nat.le_refl _)⟩
            rw [ui_s, Int32.ofInt_toInt, hfr 100 _ (by (try dsimp only); omega), ← hLL, lv7_at (by omega)]
        rcases hcc with w | w
        · rw [if_pos w]; exact k45
        · rw [if_neg (by omega), if_pos w]; exact k45
      · have hc9 : (I 93 p).toInt = 9 := by
          unfold encX at hc2
          split at hc2
          · have := hc3 (by assumption); omega
          split at hc2
          · have := hc4 (by assumption); omega
          split at hc2
          · assumption
          split at hc2
          · omega
          split at hc2 <;> omega
        rw [if_neg (by omega), if_neg (by omega)]
        match st, hst, hpl, hlen, hst30, nxt with
        | a0 :: s, hst, hpl, hlen, hst30, nxt =>
          have e : stC L x (a0 :: s) = (1 - a0) :: s := by unfold stC; rw [if_neg (by omega), if_neg (by omega)]; simp only; rw [if_pos h1]
          rw [e] at nxt
          simp only [List.length_cons] at hlen hst30 nxt ⊢
          refine bX12_workOut_90 hd (nI n) (nI a) (nI b) (nI (s.length + 1)) (nI p) I' J ?_
          have es : nI (s.length + 1) - 1 = nI s.length := jn_sub (a := s.length + 1) (b := 1) (by omega)
          simp (disch := omega) only [jn_in, jn_cl, gd_dec, r93, c9, es]
          rw [if_pos hc9]
          refine nxt _ (fr_ui hfr rfl) ⟨?_, pil_up hpl.2 (Nat.le_refl _)⟩
          rw [ui_s, hpl.1]
          rcases hst.2.1 rfl with q | q <;> subst q <;> decide
      · have hcc : 2 ≤ (I 93 p).toInt ∧ (I 93 p).toInt ≤ 11 ∧ (I 93 p).toInt ≠ 9 ∧ x.toInt = encX (I 93 p).toInt 0 := by
          by_cases w0 : (I 93 p).toInt = 0
          · have := hc3 w0; rw [w0] at hc2; simp [encX] at hc2; omega
          by_cases w1 : (I 93 p).toInt = 1
          · have := hc4 w1; rw [w1] at hc2; simp [encX] at hc2; omega
          by_cases w9 : (I 93 p).toInt = 9
          · rw [w9] at hc2; simp [encX] at hc2; omega
          refine ⟨by omega, hc1.2, w9, ?_⟩
          rw [hc2]
          unfold encX
          rw [if_neg w0, if_neg w1, if_neg w0, if_neg w1]
        rw [if_neg (by omega), if_neg (by omega)]
        match st, hst, hpl, hlen, hst30, nxt with
        | a0 :: b0 :: s, hst, hpl, hlen, hst30, nxt =>
          have e : stC L x (a0 :: b0 :: s) = bnd (jnI x.toInt b0 a0) :: s := by unfold stC; rw [if_neg (by omega), if_neg (by omega)]; simp only; rw [if_neg (by omega)]
          rw [e] at nxt
          simp only [List.length_cons] at hlen hst30 hpl nxt ⊢
          have es : nI (s.length + 1 + 1) + -1 = nI (s.length + 1) := by
            rw [show nI (s.length + 1 + 1) + -1 = nI (s.length + 1 + 1) - 1 from (Int32.sub_eq_add_neg _ _).symm]
            exact jn_sub (a := s.length + 1 + 1) (b := 1) (by omega)
          have es2 : nI (s.length + 1) - 1 = nI s.length := jn_sub (a := s.length + 1) (b := 1) (by omega)
          refine bX12_workOut_90 hd (nI n) (nI a) (nI b) (nI (s.length + 1 + 1)) (nI p) I' J ?_
          simp (disch := omega) only [jn_in, jn_cl, gd_dec, r93, c9]
          rw [if_neg hcc.2.2.1, es]
          refine bX12_workOut_128 hd (nI n) (nI a) (nI b) (nI (s.length + 1)) (nI p) I' J ?_
          simp only [es2]
          simp (disch := omega) only [jn_in, jn_cl, gd_dec, r93]
          have ha0 := hst.1
          have hb0 := hst.2.2.1
          rw [show I' 101 (s.length + 1) = Int32.ofInt a0 from hpl.1, hpl.2.1, wkW_eq, Int32.toInt_toInt64, Int32.toInt_toInt64, oI ha0, oI hb0, ← hcc.2.2.2]
          refine ⟨mj_isk_mk _ _, ⟨⟨hcc.1, hcc.2.1, hcc.2.2.1⟩, by rw [Int32.toInt_toInt64, oI hb0]; exact hb0, by rw [Int32.toInt_toInt64, oI ha0]; exact ha0⟩, nxt _ (fr_ui hfr rfl) ⟨by rw [ui_s], pil_up hpl.2.2 (Nat.le_refl _)⟩⟩
  rw [e5]
  refine run ys (520 * n + a) [] [] [kd] I fr_rf (by omega) (fun j hj => hcm j hj) hty (by decide) trivial trivial (fun I2 hf2 hp2 => ?_)
  rw [(exC_1 hL hty).1] at hp2 ⊢
  refine bX12_workOut_12 hd (nI n) (nI a) (nI b) (nI 1) (nI (520 * n + b)) I2 J ?_
  rw [e5, if_neg (by rw [jn_lt (by omega) (by omega)]; omega)]
  have := h I2 hf2
  rw [← hp2.1] at this
  exact this
theorem sdX12_workOut : mj_Sd mX12_workOut 4 tX12_workOut := by
  intro Ω l d hd as M Φ h
  unfold tX12_workOut at h
  split at h
  · rename_i z_this n_ a_ b_
    obtain ⟨⟨rfl, hM⟩, n, rfl, a, rfl, b, rfl, ys, kd, hp, h⟩ := h
    rw [mj_isk_of hM]
    exact mnX12_workOut hd n a b ys kd _ _ hp (by
      rw [mj_isk_of hM] at h
      exact h)
  · exact h.elim
