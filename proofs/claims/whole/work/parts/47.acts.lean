/-! ===== acts kept and taken back, states put aside (by program, wip/whole/pq.py) ===== -/
def aF (q : Nat) : Nat := match q with
  | 0 => 40
  | 1 => 41
  | 2 => 42
  | 3 => 45
  | 4 => 46
  | _ => 47
theorem aF_inj {q r : Nat} (hq : q < 6) (hr : r < 6) (h : aF q = aF r) : q = r := by
  have c1 : q = 0 ∨ q = 1 ∨ q = 2 ∨ q = 3 ∨ q = 4 ∨ q = 5 := by omega
  have c2 : r = 0 ∨ r = 1 ∨ r = 2 ∨ r = 3 ∨ r = 4 ∨ r = 5 := by omega
  rcases c1 with rfl | rfl | rfl | rfl | rfl | rfl <;> rcases c2 with rfl | rfl | rfl | rfl | rfl | rfl <;> first | rfl | (simp [aF] at h)
theorem aF_b (q : Nat) : 40 ≤ aF q ∧ aF q ≤ 47 ∧ aF q ≠ 43 ∧ aF q ≠ 44 := by
  unfold aF
  split <;> omega
/-- what stands at place p of a row that is written out of the boats -/
def wv (I : Nat → Nat → Int32) (p : Nat) : Int32 := if p = 0 then I 39 9 else I (aF ((p - 1) % 6)) ((p - 1) / 6)
def wrP (I : Nat → Nat → Int32) (a P : Nat) (A : Nat → Nat → Int32) : Prop := (∀ p, p < P → A 81 (a + p) = wv I p) ∧ (∀ k, k < a ∨ a + P ≤ k → A 81 k = I 81 k) ∧ fr (fun c _ => c = 81) I A
theorem wrP_up {I A : Nat → Nat → Int32} {a P : Nat} {v : Int32} (h : wrP I a P A) (hv : v = wv I P) : wrP I a (P + 1) (mj_ui A 81 (a + P) v) := by
  refine ⟨fun p hp => ?_, fun k hk => ?_, fr_ui h.2.2 rfl⟩
  · by_cases y : p = P
    · rw [y, ui_s, hv]
    · rw [ui_k (by omega)]; exact h.1 p (by omega)
  · rw [ui_k (by omega)]; exact h.2.1 k (by omega)
theorem wv_q (I : Nat → Nat → Int32) {i q : Nat} (hq : q < 6) : wv I (1 + 6 * i + q) = I (aF q) i := by
  unfold wv
  rw [if_neg (by omega), show (1 + 6 * i + q - 1) % 6 = q by omega, show (1 + 6 * i + q - 1) / 6 = i by omega]
def rdP (I : Nat → Nat → Int32) (a P : Nat) (A : Nat → Nat → Int32) : Prop := (∀ p, p < P → A (aF (p % 6)) (p / 6) = I 81 (a + 1 + p)) ∧ A 39 9 = I 81 a ∧ fr (fun c k => (c = 39 ∧ k = 9) ∨ (40 ≤ c ∧ c ≤ 47 ∧ c ≠ 43 ∧ c ≠ 44)) I A
theorem rdP_up {I A : Nat → Nat → Int32} {a i q : Nat} (hq : q < 6) (h : rdP I a (6 * i + q) A) : rdP I a (6 * i + q + 1) (mj_ui A (aF q) i (A 81 (a + 1 + 6 * i + q))) := by
  have hb := aF_b q
  refine ⟨fun p hp => ?_, by rw [ui_c (by omega)]; exact h.2.1, fr_ui h.2.2 (Or.inr hb)⟩
  by_cases y : p = 6 * i + q
  · rw [y, show (6 * i + q) % 6 = q by omega, show (6 * i + q) / 6 = i by omega, ui_s, h.2.2 81 _ (by (try dsimp only); omega)]
    congr 1
    omega
  · by_cases z : p % 6 = q
    · rw [z, ui_k (by omega), ← z]; exact h.1 p (by omega)
    · rw [ui_c (fun w => z (aF_inj (by omega) hq w))]; exact h.1 p (by omega)
def csX3_writeTo : List (Nat × Nat × Nat × mj_PT) := []
theorem csX3_writeTo_ok : mj_Cs mX3_writeTo 1 csX3_writeTo := mj_Cs0
def cutX3_writeTo : List (Nat × List Bool) := [(7, [true, true, true, false, false]), (14, [true, true, true, true, true]), (31, [true, true, true, true, true]), (43, [true, true, true, true, true]), (55, [true, true, true, true, true]), (67, [true, true, true, true, true]), (79, [true, true, true, true, true]), (91, [true, true, true, true, true])]
def pX3_writeTo_0 : List (Nat × Instr × Nat) := [(0, .aload_n 1, 1), (1, .iload_n 2, 1), (2, .aload_n 0, 1), (3, .getfield 40, 3), (6, .iastore, 1), (7, .iload_n 2, 1)]
set_option maxRecDepth 100000 in
theorem dX3_writeTo_0 : mj_pd cX3_writeTo pX3_writeTo_0 := mj_pdB (by decide +kernel)
set_option maxRecDepth 100000 in
set_option maxHeartbeats 4000000 in
theorem inX3_writeTo {Ω : mj_Om} {l : Launch} {d : Nat} {Φ : Option Value → mj_M → Prop} (hd : 1 ≤ d) (a_ : Int32) (I : Nat → Nat → Int32) (J : Nat → Nat → Int64)
    (h : ((mj_gd (mj_inB a_ 1960) (mj_G Ω l false mX3_writeTo d 0 0 Φ 0 0 7 ([some (.ref 39), some (.ref 81), some (.int a_), none, none], [], (mk (mj_ui I 81 (a_).toNatClampNeg (I 39 9)) J)))))) :
    mj_Met Ω l false mX3_writeTo d 0 0 [.ref 39, .ref 81, .int a_] (mk I J) Φ := mj_entry (by decide) rfl (fun h => (by cases h)) (Nat.le_of_ble_eq_true rfl) (mj_blk (μ := mX3_writeTo) (P := pX3_writeTo_0) (cut := cutX3_writeTo) (cs := csX3_writeTo) dX3_writeTo_0 csX3_writeTo_ok hd 7 0 _ h)
def pX3_writeTo_7 : List (Nat × Instr × Nat) := [(7, .iload_n 2, 1), (8, .iconst 1, 1), (9, .iadd, 1), (10, .istore_n 3, 1), (11, .iconst 0, 1), (12, .istore 4, 2), (14, .iload 4, 2)]
set_option maxRecDepth 100000 in
theorem dX3_writeTo_7 : mj_pd cX3_writeTo pX3_writeTo_7 := mj_pdB (by decide +kernel)
set_option maxRecDepth 100000 in
set_option maxHeartbeats 4000000 in
theorem bX3_writeTo_7 {Ω : mj_Om} {l : Launch} {d : Nat} {Φ : Option Value → mj_M → Prop} (hd : 1 ≤ d) (x2 : Int32) (I : Nat → Nat → Int32) (J : Nat → Nat → Int64)
    (h : ((mj_G Ω l false mX3_writeTo d 0 0 Φ 0 0 14 ([some (.ref 39), some (.ref 81), some (.int x2), some (.int (x2 + (1 : Int32))), some (.int (0 : Int32))], [], (mk I J))))) :
    mj_G Ω l false mX3_writeTo d 0 0 Φ 0 0 7 ([some (.ref 39), some (.ref 81), some (.int x2), none, none], [], mk I J) := mj_blk (μ := mX3_writeTo) (P := pX3_writeTo_7) (cut := cutX3_writeTo) (cs := csX3_writeTo) dX3_writeTo_7 csX3_writeTo_ok hd 8 7 _ h
def pX3_writeTo_14 : List (Nat × Instr × Nat) := [(14, .iload 4, 2), (16, .bipush 8, 2), (18, .if_icmp .ge 82, 3), (21, .aload_n 1, 1), (22, .iload_n 3, 1), (23, .aload_n 0, 1), (24, .getfield 9, 3), (27, .iload 4, 2), (29, .iaload, 1), (30, .iastore, 1), (31, .aload_n 1, 1), (100, .return_, 1)]
set_option maxRecDepth 100000 in
theorem dX3_writeTo_14 : mj_pd cX3_writeTo pX3_writeTo_14 := mj_pdB (by decide +kernel)
set_option maxRecDepth 100000 in
set_option maxHeartbeats 4000000 in
theorem bX3_writeTo_14 {Ω : mj_Om} {l : Launch} {d : Nat} {Φ : Option Value → mj_M → Prop} (hd : 1 ≤ d) (x2 : Int32) (x3 : Int32) (x4 : Int32) (I : Nat → Nat → Int32) (J : Nat → Nat → Int64)
    (h : ((if x4 < (8 : Int32) then (mj_gd (mj_inB x4 8) (mj_gd (mj_inB x3 1960) (mj_G Ω l false mX3_writeTo d 0 0 Φ 0 0 31 ([some (.ref 39), some (.ref 81), some (.int x2), some (.int x3), some (.int x4)], [], (mk (mj_ui I 81 (x3).toNatClampNeg (I 40 (x4).toNatClampNeg)) J))))) else (Φ none (mk I J))))) :
    mj_G Ω l false mX3_writeTo d 0 0 Φ 0 0 14 ([some (.ref 39), some (.ref 81), some (.int x2), some (.int x3), some (.int x4)], [], mk I J) := mj_blk (μ := mX3_writeTo) (P := pX3_writeTo_14) (cut := cutX3_writeTo) (cs := csX3_writeTo) dX3_writeTo_14 csX3_writeTo_ok hd 13 14 _ h
def pX3_writeTo_31 : List (Nat × Instr × Nat) := [(31, .aload_n 1, 1), (32, .iload_n 3, 1), (33, .iconst 1, 1), (34, .iadd, 1), (35, .aload_n 0, 1), (36, .getfield 15, 3), (39, .iload 4, 2), (41, .iaload, 1), (42, .iastore, 1), (43, .aload_n 1, 1)]
set_option maxRecDepth 100000 in
theorem dX3_writeTo_31 : mj_pd cX3_writeTo pX3_writeTo_31 := mj_pdB (by decide +kernel)
set_option maxRecDepth 100000 in
set_option maxHeartbeats 4000000 in
theorem bX3_writeTo_31 {Ω : mj_Om} {l : Launch} {d : Nat} {Φ : Option Value → mj_M → Prop} (hd : 1 ≤ d) (x2 : Int32) (x3 : Int32) (x4 : Int32) (I : Nat → Nat → Int32) (J : Nat → Nat → Int64)
    (h : ((mj_gd (mj_inB x4 8) (mj_gd (mj_inB (x3 + (1 : Int32)) 1960) (mj_G Ω l false mX3_writeTo d 0 0 Φ 0 0 43 ([some (.ref 39), some (.ref 81), some (.int x2), some (.int x3), some (.int x4)], [], (mk (mj_ui I 81 ((x3 + (1 : Int32))).toNatClampNeg (I 41 (x4).toNatClampNeg)) J))))))) :
    mj_G Ω l false mX3_writeTo d 0 0 Φ 0 0 31 ([some (.ref 39), some (.ref 81), some (.int x2), some (.int x3), some (.int x4)], [], mk I J) := mj_blk (μ := mX3_writeTo) (P := pX3_writeTo_31) (cut := cutX3_writeTo) (cs := csX3_writeTo) dX3_writeTo_31 csX3_writeTo_ok hd 11 31 _ h
def pX3_writeTo_43 : List (Nat × Instr × Nat) := [(43, .aload_n 1, 1), (44, .iload_n 3, 1), (45, .iconst 2, 1), (46, .iadd, 1), (47, .aload_n 0, 1), (48, .getfield 18, 3), (51, .iload 4, 2), (53, .iaload, 1), (54, .iastore, 1), (55, .aload_n 1, 1)]
set_option maxRecDepth 100000 in
theorem dX3_writeTo_43 : mj_pd cX3_writeTo pX3_writeTo_43 := mj_pdB (by decide +kernel)
set_option maxRecDepth 100000 in
set_option maxHeartbeats 4000000 in
theorem bX3_writeTo_43 {Ω : mj_Om} {l : Launch} {d : Nat} {Φ : Option Value → mj_M → Prop} (hd : 1 ≤ d) (x2 : Int32) (x3 : Int32) (x4 : Int32) (I : Nat → Nat → Int32) (J : Nat → Nat → Int64)
    (h : ((mj_gd (mj_inB x4 8) (mj_gd (mj_inB (x3 + (2 : Int32)) 1960) (mj_G Ω l false mX3_writeTo d 0 0 Φ 0 0 55 ([some (.ref 39), some (.ref 81), some (.int x2), some (.int x3), some (.int x4)], [], (mk (mj_ui I 81 ((x3 + (2 : Int32))).toNatClampNeg (I 42 (x4).toNatClampNeg)) J))))))) :
    mj_G Ω l false mX3_writeTo d 0 0 Φ 0 0 43 ([some (.ref 39), some (.ref 81), some (.int x2), some (.int x3), some (.int x4)], [], mk I J) := mj_blk (μ := mX3_writeTo) (P := pX3_writeTo_43) (cut := cutX3_writeTo) (cs := csX3_writeTo) dX3_writeTo_43 csX3_writeTo_ok hd 11 43 _ h
def pX3_writeTo_55 : List (Nat × Instr × Nat) := [(55, .aload_n 1, 1), (56, .iload_n 3, 1), (57, .iconst 3, 1), (58, .iadd, 1), (59, .aload_n 0, 1), (60, .getfield 27, 3), (63, .iload 4, 2), (65, .iaload, 1), (66, .iastore, 1), (67, .aload_n 1, 1)]
set_option maxRecDepth 100000 in
theorem dX3_writeTo_55 : mj_pd cX3_writeTo pX3_writeTo_55 := mj_pdB (by decide +kernel)
set_option maxRecDepth 100000 in
set_option maxHeartbeats 4000000 in
theorem bX3_writeTo_55 {Ω : mj_Om} {l : Launch} {d : Nat} {Φ : Option Value → mj_M → Prop} (hd : 1 ≤ d) (x2 : Int32) (x3 : Int32) (x4 : Int32) (I : Nat → Nat → Int32) (J : Nat → Nat → Int64)
    (h : ((mj_gd (mj_inB x4 8) (mj_gd (mj_inB (x3 + (3 : Int32)) 1960) (mj_G Ω l false mX3_writeTo d 0 0 Φ 0 0 67 ([some (.ref 39), some (.ref 81), some (.int x2), some (.int x3), some (.int x4)], [], (mk (mj_ui I 81 ((x3 + (3 : Int32))).toNatClampNeg (I 45 (x4).toNatClampNeg)) J))))))) :
    mj_G Ω l false mX3_writeTo d 0 0 Φ 0 0 55 ([some (.ref 39), some (.ref 81), some (.int x2), some (.int x3), some (.int x4)], [], mk I J) := mj_blk (μ := mX3_writeTo) (P := pX3_writeTo_55) (cut := cutX3_writeTo) (cs := csX3_writeTo) dX3_writeTo_55 csX3_writeTo_ok hd 11 55 _ h
def pX3_writeTo_67 : List (Nat × Instr × Nat) := [(67, .aload_n 1, 1), (68, .iload_n 3, 1), (69, .iconst 4, 1), (70, .iadd, 1), (71, .aload_n 0, 1), (72, .getfield 30, 3), (75, .iload 4, 2), (77, .iaload, 1), (78, .iastore, 1), (79, .aload_n 1, 1)]
set_option maxRecDepth 100000 in
theorem dX3_writeTo_67 : mj_pd cX3_writeTo pX3_writeTo_67 := mj_pdB (by decide +kernel)
set_option maxRecDepth 100000 in
set_option maxHeartbeats 4000000 in
theorem bX3_writeTo_67 {Ω : mj_Om} {l : Launch} {d : Nat} {Φ : Option Value → mj_M → Prop} (hd : 1 ≤ d) (x2 : Int32) (x3 : Int32) (x4 : Int32) (I : Nat → Nat → Int32) (J : Nat → Nat → Int64)
    (h : ((mj_gd (mj_inB x4 8) (mj_gd (mj_inB (x3 + (4 : Int32)) 1960) (mj_G Ω l false mX3_writeTo d 0 0 Φ 0 0 79 ([some (.ref 39), some (.ref 81), some (.int x2), some (.int x3), some (.int x4)], [], (mk (mj_ui I 81 ((x3 + (4 : Int32))).toNatClampNeg (I 46 (x4).toNatClampNeg)) J))))))) :
    mj_G Ω l false mX3_writeTo d 0 0 Φ 0 0 67 ([some (.ref 39), some (.ref 81), some (.int x2), some (.int x3), some (.int x4)], [], mk I J) := mj_blk (μ := mX3_writeTo) (P := pX3_writeTo_67) (cut := cutX3_writeTo) (cs := csX3_writeTo) dX3_writeTo_67 csX3_writeTo_ok hd 11 67 _ h
def pX3_writeTo_79 : List (Nat × Instr × Nat) := [(79, .aload_n 1, 1), (80, .iload_n 3, 1), (81, .iconst 5, 1), (82, .iadd, 1), (83, .aload_n 0, 1), (84, .getfield 33, 3), (87, .iload 4, 2), (89, .iaload, 1), (90, .iastore, 1), (91, .iinc 3 6, 3)]
set_option maxRecDepth 100000 in
theorem dX3_writeTo_79 : mj_pd cX3_writeTo pX3_writeTo_79 := mj_pdB (by decide +kernel)
set_option maxRecDepth 100000 in
set_option maxHeartbeats 4000000 in
theorem bX3_writeTo_79 {Ω : mj_Om} {l : Launch} {d : Nat} {Φ : Option Value → mj_M → Prop} (hd : 1 ≤ d) (x2 : Int32) (x3 : Int32) (x4 : Int32) (I : Nat → Nat → Int32) (J : Nat → Nat → Int64)
    (h : ((mj_gd (mj_inB x4 8) (mj_gd (mj_inB (x3 + (5 : Int32)) 1960) (mj_G Ω l false mX3_writeTo d 0 0 Φ 0 0 91 ([some (.ref 39), some (.ref 81), some (.int x2), some (.int x3), some (.int x4)], [], (mk (mj_ui I 81 ((x3 + (5 : Int32))).toNatClampNeg (I 47 (x4).toNatClampNeg)) J))))))) :
    mj_G Ω l false mX3_writeTo d 0 0 Φ 0 0 79 ([some (.ref 39), some (.ref 81), some (.int x2), some (.int x3), some (.int x4)], [], mk I J) := mj_blk (μ := mX3_writeTo) (P := pX3_writeTo_79) (cut := cutX3_writeTo) (cs := csX3_writeTo) dX3_writeTo_79 csX3_writeTo_ok hd 11 79 _ h
def pX3_writeTo_91 : List (Nat × Instr × Nat) := [(14, .iload 4, 2), (91, .iinc 3 6, 3), (94, .iinc 4 1, 3), (97, .goto (-83), 3)]
set_option maxRecDepth 100000 in
theorem dX3_writeTo_91 : mj_pd cX3_writeTo pX3_writeTo_91 := mj_pdB (by decide +kernel)
set_option maxRecDepth 100000 in
set_option maxHeartbeats 4000000 in
theorem bX3_writeTo_91 {Ω : mj_Om} {l : Launch} {d : Nat} {Φ : Option Value → mj_M → Prop} (hd : 1 ≤ d) (x2 : Int32) (x3 : Int32) (x4 : Int32) (I : Nat → Nat → Int32) (J : Nat → Nat → Int64)
    (h : ((mj_G Ω l false mX3_writeTo d 0 0 Φ 0 0 14 ([some (.ref 39), some (.ref 81), some (.int x2), some (.int (x3 + (6 : Int32))), some (.int (x4 + (1 : Int32)))], [], (mk I J))))) :
    mj_G Ω l false mX3_writeTo d 0 0 Φ 0 0 91 ([some (.ref 39), some (.ref 81), some (.int x2), some (.int x3), some (.int x4)], [], mk I J) := mj_blk (μ := mX3_writeTo) (P := pX3_writeTo_91) (cut := cutX3_writeTo) (cs := csX3_writeTo) dX3_writeTo_91 csX3_writeTo_ok hd 5 91 _ h
def tX3_writeTo : mj_PT := fun as M Φ => match as with
  | [.ref this, .ref q_, .int a_] => ((this = 39 ∧ q_ = 81 ∧ mj_isk M) ∧ (∃ a : Nat, a_ = nI a ∧ ((a + 49 ≤ 1960) ∧ (∀ I1 : Nat → Nat → Int32, (wrP M.2.2.1 a 49 I1) → Φ none (M.1, M.2.1, I1, M.2.2.2)))))
  | _ => False
set_option maxHeartbeats 4000000 in
theorem mnX3_writeTo {Ω : mj_Om} {l : Launch} {d : Nat} {Φ : Option Value → mj_M → Prop} (hd : 1 ≤ d) (a : Nat) (I : Nat → Nat → Int32) (J : Nat → Nat → Int64) (hp : a + 49 ≤ 1960) (h : ∀ I1 : Nat → Nat → Int32, (wrP I a 49 I1) → Φ none (mk I1 J)) : mj_Met Ω l false mX3_writeTo d 0 0 [.ref 39, .ref 81, .int (nI a)] (mk I J) Φ := by
  refine inX3_writeTo hd (nI a) I J ?_
  simp (disch := omega) only [jn_in, jn_cl, gd_dec]
  have s0 : wrP I a 1 (mj_ui I 81 (a + 0) (I 39 9)) := wrP_up (P := 0) ⟨fun p hp => absurd hp (Nat.not_lt_zero p), fun k _ => rfl, fr_rf⟩ rfl
  generalize hB : mj_ui I 81 (a + 0) (I 39 9) = B at s0
  try rw [show mj_ui I 81 a (I 39 9) = B from hB]
  refine bX3_writeTo_7 hd (nI a) B J ?_
  have e0 : nI a + 1 = nI (a + 1 + 6 * 0) := jn_succ a
  rw [e0]
  refine lp_inv (σ := Nat → Nat → Int32) (n := 8) (G := fun i A => mj_G Ω l false mX3_writeTo d 0 0 Φ 0 0 14 ([some (.ref 39), some (.ref 81), some (.int (nI a)), some (.int (nI (a + 1 + 6 * i))), some (.int (nI i))], [], mk A J)) (fun i A => wrP I a (1 + 6 * i) A) (fun i A hi hI hk => ?_) (fun A hI => ?_) 8 0 B (by omega) s0
  · have ad : ∀ j : Nat, nI (a + 1 + 6 * i) + nI j = nI (a + (1 + 6 * i + j)) := fun j => by rw [jn_add]; congr 1; omega
    have ad1 : nI (a + 1 + 6 * i) + 1 = nI (a + (1 + 6 * i + 1)) := ad 1
    have ad2 : nI (a + 1 + 6 * i) + 2 = nI (a + (1 + 6 * i + 2)) := ad 2
    have ad3 : nI (a + 1 + 6 * i) + 3 = nI (a + (1 + 6 * i + 3)) := ad 3
    have ad4 : nI (a + 1 + 6 * i) + 4 = nI (a + (1 + 6 * i + 4)) := ad 4
    have ad5 : nI (a + 1 + 6 * i) + 5 = nI (a + (1 + 6 * i + 5)) := ad 5
    have ad6 : nI (a + 1 + 6 * i) + 6 = nI (a + 1 + 6 * (i + 1)) := (ad 6).trans (by congr 1; omega)
    have e00 : nI (a + 1 + 6 * i) = nI (a + (1 + 6 * i + 0)) := by congr 1; omega
    have wq : ∀ (q : Nat) (A : Nat → Nat → Int32), q < 6 → wrP I a (1 + 6 * i + q) A → A (aF q) i = wv I (1 + 6 * i + q) := fun q A hq hA => by
      rw [wv_q I hq]; exact hA.2.2 _ _ (by have := aF_b q; (try dsimp only); omega)
    refine bX3_writeTo_14 hd (nI a) (nI (a + 1 + 6 * i)) (nI i) A J ?_
    rw [if_pos (show nI i < (8 : Int32) by rw [show (8 : Int32) = nI 8 from rfl, jn_lt (by omega) (by omega)]; exact hi)]
    simp (disch := omega) only [jn_in, jn_cl, gd_dec]
    have s1 := wrP_up (P := 1 + 6 * i + 0) hI (wq 0 A (by decide) hI)
    generalize hA0 : mj_ui A 81 (a + (1 + 6 * i + 0)) (A (aF 0) i) = A0 at s1
    try rw [show mj_ui A 81 (a + 1 + 6 * i) (A 40 i) = A0 by rw [← hA0, show a + 1 + 6 * i = a + (1 + 6 * i + 0) by omega]; rfl]
    refine bX3_writeTo_31 hd (nI a) (nI (a + 1 + 6 * i)) (nI i) A0 J ?_
    rw [ad1]
    simp (disch := omega) only [jn_in, jn_cl, gd_dec]
    have s2 := wrP_up (P := 1 + 6 * i + 1) s1 (wq 1 A0 (by decide) s1)
    generalize hA1 : mj_ui A0 81 (a + (1 + 6 * i + 1)) (A0 (aF 1) i) = A1 at s2
    try rw [show mj_ui A0 81 (a + (1 + 6 * i + 1)) (A0 41 i) = A1 from hA1]
    refine bX3_writeTo_43 hd (nI a) (nI (a + 1 + 6 * i)) (nI i) A1 J ?_
    rw [ad2]
    simp (disch := omega) only [jn_in, jn_cl, gd_dec]
    have s3 := wrP_up (P := 1 + 6 * i + 2) s2 (wq 2 A1 (by decide) s2)
    generalize hA2 : mj_ui A1 81 (a + (1 + 6 * i + 2)) (A1 (aF 2) i) = A2 at s3
    try rw [show mj_ui A1 81 (a + (1 + 6 * i + 2)) (A1 42 i) = A2 from hA2]
    refine bX3_writeTo_55 hd (nI a) (nI (a + 1 + 6 * i)) (nI i) A2 J ?_
    rw [ad3]
    simp (disch := omega) only [jn_in, jn_cl, gd_dec]
    have s4 := wrP_up (P := 1 + 6 * i + 3) s3 (wq 3 A2 (by decide) s3)
    generalize hA3 : mj_ui A2 81 (a + (1 + 6 * i + 3)) (A2 (aF 3) i) = A3 at s4
    try rw [show mj_ui A2 81 (a + (1 + 6 * i + 3)) (A2 45 i) = A3 from hA3]
    refine bX3_writeTo_67 hd (nI a) (nI (a + 1 + 6 * i)) (nI i) A3 J ?_
    rw [ad4]
    simp (disch := omega) only [jn_in, jn_cl, gd_dec]
    have s5 := wrP_up (P := 1 + 6 * i + 4) s4 (wq 4 A3 (by decide) s4)
    generalize hA4 : mj_ui A3 81 (a + (1 + 6 * i + 4)) (A3 (aF 4) i) = A4 at s5
    try rw [show mj_ui A3 81 (a + (1 + 6 * i + 4)) (A3 46 i) = A4 from hA4]
    refine bX3_writeTo_79 hd (nI a) (nI (a + 1 + 6 * i)) (nI i) A4 J ?_
    rw [ad5]
    simp (disch := omega) only [jn_in, jn_cl, gd_dec]
    have s6 := wrP_up (P := 1 + 6 * i + 5) s5 (wq 5 A4 (by decide) s5)
    generalize hA5 : mj_ui A4 81 (a + (1 + 6 * i + 5)) (A4 (aF 5) i) = A5 at s6
    try rw [show mj_ui A4 81 (a + (1 + 6 * i + 5)) (A4 47 i) = A5 from hA5]
    refine bX3_writeTo_91 hd (nI a) (nI (a + 1 + 6 * i)) (nI i) A5 J ?_
    rw [ad6, jn_succ]
    exact hk A5 (by rw [show 1 + 6 * (i + 1) = 1 + 6 * i + 5 + 1 by omega]; exact s6)
  · refine bX3_writeTo_14 hd (nI a) (nI (a + 1 + 6 * 8)) (nI 8) A J ?_
    rw [if_neg (by decide)]
    exact h A hI
theorem sdX3_writeTo : mj_Sd mX3_writeTo 1 tX3_writeTo := by
  intro Ω l d hd as M Φ h
  unfold tX3_writeTo at h
  split at h
  · rename_i z_this z_q a_
    obtain ⟨⟨rfl, rfl, hM⟩, a, rfl, hp, h⟩ := h
    rw [mj_isk_of hM]
    exact mnX3_writeTo hd a _ _ hp (by
      rw [mj_isk_of hM] at h
      exact h)
  · exact h.elim
def csX3_readFrom : List (Nat × Nat × Nat × mj_PT) := []
theorem csX3_readFrom_ok : mj_Cs mX3_readFrom 1 csX3_readFrom := mj_Cs0
def cutX3_readFrom : List (Nat × List Bool) := [(14, [true, true, true, true, true]), (31, [true, true, true, true, true]), (43, [true, true, true, true, true]), (55, [true, true, true, true, true]), (67, [true, true, true, true, true]), (79, [true, true, true, true, true]), (91, [true, true, true, true, true])]
def pX3_readFrom_0 : List (Nat × Instr × Nat) := [(0, .aload_n 0, 1), (1, .aload_n 1, 1), (2, .iload_n 2, 1), (3, .iaload, 1), (4, .putfield 40, 3), (7, .iload_n 2, 1), (8, .iconst 1, 1), (9, .iadd, 1), (10, .istore_n 3, 1), (11, .iconst 0, 1), (12, .istore 4, 2), (14, .iload 4, 2)]
set_option maxRecDepth 100000 in
theorem dX3_readFrom_0 : mj_pd cX3_readFrom pX3_readFrom_0 := mj_pdB (by decide +kernel)
set_option maxRecDepth 100000 in
set_option maxHeartbeats 4000000 in
theorem inX3_readFrom {Ω : mj_Om} {l : Launch} {d : Nat} {Φ : Option Value → mj_M → Prop} (hd : 1 ≤ d) (a_ : Int32) (I : Nat → Nat → Int32) (J : Nat → Nat → Int64)
    (h : ((mj_gd (mj_inB a_ 1960) (mj_G Ω l false mX3_readFrom d 0 0 Φ 0 0 14 ([some (.ref 39), some (.ref 81), some (.int a_), some (.int (a_ + (1 : Int32))), some (.int (0 : Int32))], [], (mk (mj_ui I 39 9 (I 81 (a_).toNatClampNeg)) J)))))) :
    mj_Met Ω l false mX3_readFrom d 0 0 [.ref 39, .ref 81, .int a_] (mk I J) Φ := mj_entry (by decide) rfl (fun h => (by cases h)) (Nat.le_of_ble_eq_true rfl) (mj_blk (μ := mX3_readFrom) (P := pX3_readFrom_0) (cut := cutX3_readFrom) (cs := csX3_readFrom) dX3_readFrom_0 csX3_readFrom_ok hd 13 0 _ h)
def pX3_readFrom_14 : List (Nat × Instr × Nat) := [(14, .iload 4, 2), (16, .bipush 8, 2), (18, .if_icmp .ge 82, 3), (21, .aload_n 0, 1), (22, .getfield 9, 3), (25, .iload 4, 2), (27, .aload_n 1, 1), (28, .iload_n 3, 1), (29, .iaload, 1), (30, .iastore, 1), (31, .aload_n 0, 1), (100, .return_, 1)]
set_option maxRecDepth 100000 in
theorem dX3_readFrom_14 : mj_pd cX3_readFrom pX3_readFrom_14 := mj_pdB (by decide +kernel)
set_option maxRecDepth 100000 in
set_option maxHeartbeats 4000000 in
theorem bX3_readFrom_14 {Ω : mj_Om} {l : Launch} {d : Nat} {Φ : Option Value → mj_M → Prop} (hd : 1 ≤ d) (x2 : Int32) (x3 : Int32) (x4 : Int32) (I : Nat → Nat → Int32) (J : Nat → Nat → Int64)
    (h : ((if x4 < (8 : Int32) then (mj_gd (mj_inB x3 1960) (mj_gd (mj_inB x4 8) (mj_G Ω l false mX3_readFrom d 0 0 Φ 0 0 31 ([some (.ref 39), some (.ref 81), some (.int x2), some (.int x3), some (.int x4)], [], (mk (mj_ui I 40 (x4).toNatClampNeg (I 81 (x3).toNatClampNeg)) J))))) else (Φ none (mk I J))))) :
    mj_G Ω l false mX3_readFrom d 0 0 Φ 0 0 14 ([some (.ref 39), some (.ref 81), some (.int x2), some (.int x3), some (.int x4)], [], mk I J) := mj_blk (μ := mX3_readFrom) (P := pX3_readFrom_14) (cut := cutX3_readFrom) (cs := csX3_readFrom) dX3_readFrom_14 csX3_readFrom_ok hd 13 14 _ h
def pX3_readFrom_31 : List (Nat × Instr × Nat) := [(31, .aload_n 0, 1), (32, .getfield 15, 3), (35, .iload 4, 2), (37, .aload_n 1, 1), (38, .iload_n 3, 1), (39, .iconst 1, 1), (40, .iadd, 1), (41, .iaload, 1), (42, .iastore, 1), (43, .aload_n 0, 1)]
set_option maxRecDepth 100000 in
theorem dX3_readFrom_31 : mj_pd cX3_readFrom pX3_readFrom_31 := mj_pdB (by decide +kernel)
set_option maxRecDepth 100000 in
set_option maxHeartbeats 4000000 in
theorem bX3_readFrom_31 {Ω : mj_Om} {l : Launch} {d : Nat} {Φ : Option Value → mj_M → Prop} (hd : 1 ≤ d) (x2 : Int32) (x3 : Int32) (x4 : Int32) (I : Nat → Nat → Int32) (J : Nat → Nat → Int64)
    (h : ((mj_gd (mj_inB (x3 + (1 : Int32)) 1960) (mj_gd (mj_inB x4 8) (mj_G Ω l false mX3_readFrom d 0 0 Φ 0 0 43 ([some (.ref 39), some (.ref 81), some (.int x2), some (.int x3), some (.int x4)], [], (mk (mj_ui I 41 (x4).toNatClampNeg (I 81 ((x3 + (1 : Int32))).toNatClampNeg)) J))))))) :
    mj_G Ω l false mX3_readFrom d 0 0 Φ 0 0 31 ([some (.ref 39), some (.ref 81), some (.int x2), some (.int x3), some (.int x4)], [], mk I J) := mj_blk (μ := mX3_readFrom) (P := pX3_readFrom_31) (cut := cutX3_readFrom) (cs := csX3_readFrom) dX3_readFrom_31 csX3_readFrom_ok hd 11 31 _ h
def pX3_readFrom_43 : List (Nat × Instr × Nat) := [(43, .aload_n 0, 1), (44, .getfield 18, 3), (47, .iload 4, 2), (49, .aload_n 1, 1), (50, .iload_n 3, 1), (51, .iconst 2, 1), (52, .iadd, 1), (53, .iaload, 1), (54, .iastore, 1), (55, .aload_n 0, 1)]
set_option maxRecDepth 100000 in
theorem dX3_readFrom_43 : mj_pd cX3_readFrom pX3_readFrom_43 := mj_pdB (by decide +kernel)
set_option maxRecDepth 100000 in
set_option maxHeartbeats 4000000 in
theorem bX3_readFrom_43 {Ω : mj_Om} {l : Launch} {d : Nat} {Φ : Option Value → mj_M → Prop} (hd : 1 ≤ d) (x2 : Int32) (x3 : Int32) (x4 : Int32) (I : Nat → Nat → Int32) (J : Nat → Nat → Int64)
    (h : ((mj_gd (mj_inB (x3 + (2 : Int32)) 1960) (mj_gd (mj_inB x4 8) (mj_G Ω l false mX3_readFrom d 0 0 Φ 0 0 55 ([some (.ref 39), some (.ref 81), some (.int x2), some (.int x3), some (.int x4)], [], (mk (mj_ui I 42 (x4).toNatClampNeg (I 81 ((x3 + (2 : Int32))).toNatClampNeg)) J))))))) :
    mj_G Ω l false mX3_readFrom d 0 0 Φ 0 0 43 ([some (.ref 39), some (.ref 81), some (.int x2), some (.int x3), some (.int x4)], [], mk I J) := mj_blk (μ := mX3_readFrom) (P := pX3_readFrom_43) (cut := cutX3_readFrom) (cs := csX3_readFrom) dX3_readFrom_43 csX3_readFrom_ok hd 11 43 _ h
def pX3_readFrom_55 : List (Nat × Instr × Nat) := [(55, .aload_n 0, 1), (56, .getfield 27, 3), (59, .iload 4, 2), (61, .aload_n 1, 1), (62, .iload_n 3, 1), (63, .iconst 3, 1), (64, .iadd, 1), (65, .iaload, 1), (66, .iastore, 1), (67, .aload_n 0, 1)]
set_option maxRecDepth 100000 in
theorem dX3_readFrom_55 : mj_pd cX3_readFrom pX3_readFrom_55 := mj_pdB (by decide +kernel)
set_option maxRecDepth 100000 in
set_option maxHeartbeats 4000000 in
theorem bX3_readFrom_55 {Ω : mj_Om} {l : Launch} {d : Nat} {Φ : Option Value → mj_M → Prop} (hd : 1 ≤ d) (x2 : Int32) (x3 : Int32) (x4 : Int32) (I : Nat → Nat → Int32) (J : Nat → Nat → Int64)
    (h : ((mj_gd (mj_inB (x3 + (3 : Int32)) 1960) (mj_gd (mj_inB x4 8) (mj_G Ω l false mX3_readFrom d 0 0 Φ 0 0 67 ([some (.ref 39), some (.ref 81), some (.int x2), some (.int x3), some (.int x4)], [], (mk (mj_ui I 45 (x4).toNatClampNeg (I 81 ((x3 + (3 : Int32))).toNatClampNeg)) J))))))) :
    mj_G Ω l false mX3_readFrom d 0 0 Φ 0 0 55 ([some (.ref 39), some (.ref 81), some (.int x2), some (.int x3), some (.int x4)], [], mk I J) := mj_blk (μ := mX3_readFrom) (P := pX3_readFrom_55) (cut := cutX3_readFrom) (cs := csX3_readFrom) dX3_readFrom_55 csX3_readFrom_ok hd 11 55 _ h
def pX3_readFrom_67 : List (Nat × Instr × Nat) := [(67, .aload_n 0, 1), (68, .getfield 30, 3), (71, .iload 4, 2), (73, .aload_n 1, 1), (74, .iload_n 3, 1), (75, .iconst 4, 1), (76, .iadd, 1), (77, .iaload, 1), (78, .iastore, 1), (79, .aload_n 0, 1)]
set_option maxRecDepth 100000 in
theorem dX3_readFrom_67 : mj_pd cX3_readFrom pX3_readFrom_67 := mj_pdB (by decide +kernel)
set_option maxRecDepth 100000 in
set_option maxHeartbeats 4000000 in
theorem bX3_readFrom_67 {Ω : mj_Om} {l : Launch} {d : Nat} {Φ : Option Value → mj_M → Prop} (hd : 1 ≤ d) (x2 : Int32) (x3 : Int32) (x4 : Int32) (I : Nat → Nat → Int32) (J : Nat → Nat → Int64)
    (h : ((mj_gd (mj_inB (x3 + (4 : Int32)) 1960) (mj_gd (mj_inB x4 8) (mj_G Ω l false mX3_readFrom d 0 0 Φ 0 0 79 ([some (.ref 39), some (.ref 81), some (.int x2), some (.int x3), some (.int x4)], [], (mk (mj_ui I 46 (x4).toNatClampNeg (I 81 ((x3 + (4 : Int32))).toNatClampNeg)) J))))))) :
    mj_G Ω l false mX3_readFrom d 0 0 Φ 0 0 67 ([some (.ref 39), some (.ref 81), some (.int x2), some (.int x3), some (.int x4)], [], mk I J) := mj_blk (μ := mX3_readFrom) (P := pX3_readFrom_67) (cut := cutX3_readFrom) (cs := csX3_readFrom) dX3_readFrom_67 csX3_readFrom_ok hd 11 67 _ h
def pX3_readFrom_79 : List (Nat × Instr × Nat) := [(79, .aload_n 0, 1), (80, .getfield 33, 3), (83, .iload 4, 2), (85, .aload_n 1, 1), (86, .iload_n 3, 1), (87, .iconst 5, 1), (88, .iadd, 1), (89, .iaload, 1), (90, .iastore, 1), (91, .iinc 3 6, 3)]
set_option maxRecDepth 100000 in
theorem dX3_readFrom_79 : mj_pd cX3_readFrom pX3_readFrom_79 := mj_pdB (by decide +kernel)
set_option maxRecDepth 100000 in
set_option maxHeartbeats 4000000 in
theorem bX3_readFrom_79 {Ω : mj_Om} {l : Launch} {d : Nat} {Φ : Option Value → mj_M → Prop} (hd : 1 ≤ d) (x2 : Int32) (x3 : Int32) (x4 : Int32) (I : Nat → Nat → Int32) (J : Nat → Nat → Int64)
    (h : ((mj_gd (mj_inB (x3 + (5 : Int32)) 1960) (mj_gd (mj_inB x4 8) (mj_G Ω l false mX3_readFrom d 0 0 Φ 0 0 91 ([some (.ref 39), some (.ref 81), some (.int x2), some (.int x3), some (.int x4)], [], (mk (mj_ui I 47 (x4).toNatClampNeg (I 81 ((x3 + (5 : Int32))).toNatClampNeg)) J))))))) :
    mj_G Ω l false mX3_readFrom d 0 0 Φ 0 0 79 ([some (.ref 39), some (.ref 81), some (.int x2), some (.int x3), some (.int x4)], [], mk I J) := mj_blk (μ := mX3_readFrom) (P := pX3_readFrom_79) (cut := cutX3_readFrom) (cs := csX3_readFrom) dX3_readFrom_79 csX3_readFrom_ok hd 11 79 _ h
def pX3_readFrom_91 : List (Nat × Instr × Nat) := [(14, .iload 4, 2), (91, .iinc 3 6, 3), (94, .iinc 4 1, 3), (97, .goto (-83), 3)]
set_option maxRecDepth 100000 in
theorem dX3_readFrom_91 : mj_pd cX3_readFrom pX3_readFrom_91 := mj_pdB (by decide +kernel)
set_option maxRecDepth 100000 in
set_option maxHeartbeats 4000000 in
theorem bX3_readFrom_91 {Ω : mj_Om} {l : Launch} {d : Nat} {Φ : Option Value → mj_M → Prop} (hd : 1 ≤ d) (x2 : Int32) (x3 : Int32) (x4 : Int32) (I : Nat → Nat → Int32) (J : Nat → Nat → Int64)
    (h : ((mj_G Ω l false mX3_readFrom d 0 0 Φ 0 0 14 ([some (.ref 39), some (.ref 81), some (.int x2), some (.int (x3 + (6 : Int32))), some (.int (x4 + (1 : Int32)))], [], (mk I J))))) :
    mj_G Ω l false mX3_readFrom d 0 0 Φ 0 0 91 ([some (.ref 39), some (.ref 81), some (.int x2), some (.int x3), some (.int x4)], [], mk I J) := mj_blk (μ := mX3_readFrom) (P := pX3_readFrom_91) (cut := cutX3_readFrom) (cs := csX3_readFrom) dX3_readFrom_91 csX3_readFrom_ok hd 5 91 _ h
def tX3_readFrom : mj_PT := fun as M Φ => match as with
  | [.ref this, .ref q_, .int a_] => ((this = 39 ∧ q_ = 81 ∧ mj_isk M) ∧ (∃ a : Nat, a_ = nI a ∧ ((a + 49 ≤ 1960) ∧ (∀ I1 : Nat → Nat → Int32, (rdP M.2.2.1 a 48 I1) → Φ none (M.1, M.2.1, I1, M.2.2.2)))))
  | _ => False
set_option maxHeartbeats 4000000 in
theorem mnX3_readFrom {Ω : mj_Om} {l : Launch} {d : Nat} {Φ : Option Value → mj_M → Prop} (hd : 1 ≤ d) (a : Nat) (I : Nat → Nat → Int32) (J : Nat → Nat → Int64) (hp : a + 49 ≤ 1960) (h : ∀ I1 : Nat → Nat → Int32, (rdP I a 48 I1) → Φ none (mk I1 J)) : mj_Met Ω l false mX3_readFrom d 0 0 [.ref 39, .ref 81, .int (nI a)] (mk I J) Φ := by
  refine inX3_readFrom hd (nI a) I J ?_
  simp (disch := omega) only [jn_in, jn_cl, gd_dec]
  have s0 : rdP I a 0 (mj_ui I 39 9 (I 81 a)) := ⟨fun p hp => absurd hp (Nat.not_lt_zero p), ui_s, fr_ui fr_rf (Or.inl ⟨rfl, rfl⟩)⟩
  generalize mj_ui I 39 9 (I 81 a) = B at s0 ⊢
  have e0 : nI a + 1 = nI (a + 1 + 6 * 0) := jn_succ a
  rw [e0]
  refine lp_inv (σ := Nat → Nat → Int32) (n := 8) (G := fun i A => mj_G Ω l false mX3_readFrom d 0 0 Φ 0 0 14 ([some (.ref 39), some (.ref 81), some (.int (nI a)), some (.int (nI (a + 1 + 6 * i))), some (.int (nI i))], [], mk A J)) (fun i A => rdP I a (6 * i) A) (fun i A hi hI hk => ?_) (fun A hI => ?_) 8 0 B (by omega) s0
  · have ad : ∀ j : Nat, nI (a + 1 + 6 * i) + nI j = nI (a + 1 + 6 * i + j) := fun j => by rw [jn_add]
    have ad1 : nI (a + 1 + 6 * i) + 1 = nI (a + 1 + 6 * i + 1) := ad 1
    have ad2 : nI (a + 1 + 6 * i) + 2 = nI (a + 1 + 6 * i + 2) := ad 2
    have ad3 : nI (a + 1 + 6 * i) + 3 = nI (a + 1 + 6 * i + 3) := ad 3
    have ad4 : nI (a + 1 + 6 * i) + 4 = nI (a + 1 + 6 * i + 4) := ad 4
    have ad5 : nI (a + 1 + 6 * i) + 5 = nI (a + 1 + 6 * i + 5) := ad 5
    have ad6 : nI (a + 1 + 6 * i) + 6 = nI (a + 1 + 6 * (i + 1)) := (ad 6).trans (by congr 1)
    refine bX3_readFrom_14 hd (nI a) (nI (a + 1 + 6 * i)) (nI i) A J ?_
    rw [if_pos (show nI i < (8 : Int32) by rw [show (8 : Int32) = nI 8 from rfl, jn_lt (by omega) (by omega)]; exact hi)]
    simp (disch := omega) only [jn_in, jn_cl, gd_dec]
    have s1 := rdP_up (i := i) (q := 0) (by decide) hI
    generalize hA0 : mj_ui A (aF 0) i (A 81 (a + 1 + 6 * i + 0)) = A0 at s1
    try rw [show mj_ui A 40 i (A 81 (a + 1 + 6 * i)) = A0 from hA0]
    refine bX3_readFrom_31 hd (nI a) (nI (a + 1 + 6 * i)) (nI i) A0 J ?_
    rw [ad1]
    simp (disch := omega) only [jn_in, jn_cl, gd_dec]
    have s2 := rdP_up (i := i) (q := 1) (by decide) s1
    generalize hA1 : mj_ui A0 (aF 1) i (A0 81 (a + 1 + 6 * i + 1)) = A1 at s2
    try rw [show mj_ui A0 41 i (A0 81 (a + 1 + 6 * i + 1)) = A1 from hA1]
    refine bX3_readFrom_43 hd (nI a) (nI (a + 1 + 6 * i)) (nI i) A1 J ?_
    rw [ad2]
    simp (disch := omega) only [jn_in, jn_cl, gd_dec]
    have s3 := rdP_up (i := i) (q := 2) (by decide) s2
    generalize hA2 : mj_ui A1 (aF 2) i (A1 81 (a + 1 + 6 * i + 2)) = A2 at s3
    try rw [show mj_ui A1 42 i (A1 81 (a + 1 + 6 * i + 2)) = A2 from hA2]
    refine bX3_readFrom_55 hd (nI a) (nI (a + 1 + 6 * i)) (nI i) A2 J ?_
    rw [ad3]
    simp (disch := omega) only [jn_in, jn_cl, gd_dec]
    have s4 := rdP_up (i := i) (q := 3) (by decide) s3
    generalize hA3 : mj_ui A2 (aF 3) i (A2 81 (a + 1 + 6 * i + 3)) = A3 at s4
    try rw [show mj_ui A2 45 i (A2 81 (a + 1 + 6 * i + 3)) = A3 from hA3]
    refine bX3_readFrom_67 hd (nI a) (nI (a + 1 + 6 * i)) (nI i) A3 J ?_
    rw [ad4]
    simp (disch := omega) only [jn_in, jn_cl, gd_dec]
    have s5 := rdP_up (i := i) (q := 4) (by decide) s4
    generalize hA4 : mj_ui A3 (aF 4) i (A3 81 (a + 1 + 6 * i + 4)) = A4 at s5
    try rw [show mj_ui A3 46 i (A3 81 (a + 1 + 6 * i + 4)) = A4 from hA4]
    refine bX3_readFrom_79 hd (nI a) (nI (a + 1 + 6 * i)) (nI i) A4 J ?_
    rw [ad5]
    simp (disch := omega) only [jn_in, jn_cl, gd_dec]
    have s6 := rdP_up (i := i) (q := 5) (by decide) s5
    generalize hA5 : mj_ui A4 (aF 5) i (A4 81 (a + 1 + 6 * i + 5)) = A5 at s6
    try rw [show mj_ui A4 47 i (A4 81 (a + 1 + 6 * i + 5)) = A5 from hA5]
    refine bX3_readFrom_91 hd (nI a) (nI (a + 1 + 6 * i)) (nI i) A5 J ?_
    rw [ad6, jn_succ]
    exact hk A5 s6
  · refine bX3_readFrom_14 hd (nI a) (nI (a + 1 + 6 * 8)) (nI 8) A J ?_
    rw [if_neg (by decide)]
    exact h A hI
theorem sdX3_readFrom : mj_Sd mX3_readFrom 1 tX3_readFrom := by
  intro Ω l d hd as M Φ h
  unfold tX3_readFrom at h
  split at h
  · rename_i z_this z_q a_
    obtain ⟨⟨rfl, rfl, hM⟩, a, rfl, hp, h⟩ := h
    rw [mj_isk_of hM]
    exact mnX3_readFrom hd a _ _ hp (by
      rw [mj_isk_of hM] at h
      exact h)
  · exact h.elim
def nxA (nx : Nat) : Nat := if nx + 1 < 40 then nx + 1 else 0
def prA (nx : Nat) : Nat := if 0 < nx then nx - 1 else 39
def ctA (a : Nat) : Nat := if a < 40 then a + 1 else a
def csX0_remember : List (Nat × Nat × Nat × mj_PT) := [(22, 0, 3, mj_rcv 3 tX3_writeTo)]
theorem csX0_remember_ok : mj_Cs mX0_remember 2 csX0_remember := (mj_CsV (D' := 1) (ci := 3) (q := (RX3, TX3, 10)) sdX3_writeTo (Nat.le_of_ble_eq_true rfl) fX3_writeTo rfl rfl iX3_writeTo vX3_writeTo (by decide +kernel) l0_22 mj_Cs0)
def cutX0_remember : List (Nat × List Bool) := []
set_option maxRecDepth 100000 in
set_option maxHeartbeats 4000000 in
theorem inX0_remember {Ω : mj_Om} {l : Launch} {d : Nat} {Φ : Option Value → mj_M → Prop} (hd : 2 ≤ d) (I : Nat → Nat → Int32) (J : Nat → Nat → Int64)
    (h : (((39 = 39 ∧ 81 = 81 ∧ mj_isk (mk I J)) ∧ (∃ a328 : Nat, ((I 80 1) * (49 : Int32)) = nI a328 ∧ ((a328 + 49 ≤ 1960) ∧ (∀ I329 : Nat → Nat → Int32, (wrP I a328 49 I329) → (if ((I329 80 1) + (1 : Int32)) < (40 : Int32) then (if (I329 80 2) < (40 : Int32) then (Φ none (mk (mj_ui (mj_ui I329 80 1 ((I329 80 1) + (1 : Int32))) 80 2 ((I329 80 2) + (1 : Int32))) J)) else (Φ none (mk (mj_ui I329 80 1 ((I329 80 1) + (1 : Int32))) J))) else (if (I329 80 2) < (40 : Int32) then (Φ none (mk (mj_ui (mj_ui I329 80 1 (0 : Int32)) 80 2 ((I329 80 2) + (1 : Int32))) J)) else (Φ none (mk (mj_ui I329 80 1 (0 : Int32)) J)))))))))) :
    mj_Met Ω l false mX0_remember d 0 0 [.ref 80, .ref 39] (mk I J) Φ := mj_entry (by decide) rfl (fun h => (by cases h)) (Nat.le_of_ble_eq_true rfl) (mj_blk (μ := mX0_remember) (P := pX0_remember) (cut := cutX0_remember) (cs := csX0_remember) dX0_remember csX0_remember_ok hd 34 0 _ h)
def tX0_remember : mj_PT := fun as M Φ => match as with
  | [.ref this, .ref q_] => ((this = 80 ∧ q_ = 39 ∧ mj_isk M) ∧ (∃ nx : Nat, (∃ a : Nat, ((M.2.2.1 80 1 = nI nx ∧ nx < 40 ∧ M.2.2.1 80 2 = nI a ∧ a ≤ 40) ∧ (∀ I1 : Nat → Nat → Int32, (∃ A : Nat → Nat → Int32, wrP M.2.2.1 (49 * nx) 49 A ∧ fr (fun c _ => c = 80) A I1 ∧ I1 80 1 = nI (nxA nx) ∧ I1 80 2 = nI (ctA a)) → Φ none (M.1, M.2.1, I1, M.2.2.2))))))
  | _ => False
theorem mnX0_remember {Ω : mj_Om} {l : Launch} {d : Nat} {Φ : Option Value → mj_M → Prop} (hd : 2 ≤ d) (nx : Nat) (a : Nat) (I : Nat → Nat → Int32) (J : Nat → Nat → Int64) (hp : I 80 1 = nI nx ∧ nx < 40 ∧ I 80 2 = nI a ∧ a ≤ 40) (h : ∀ I1 : Nat → Nat → Int32, (∃ A : Nat → Nat → Int32, wrP I (49 * nx) 49 A ∧ fr (fun c _ => c = 80) A I1 ∧ I1 80 1 = nI (nxA nx) ∧ I1 80 2 = nI (ctA a)) → Φ none (mk I1 J)) : mj_Met Ω l false mX0_remember d 0 0 [.ref 80, .ref 39] (mk I J) Φ := by
  refine inX0_remember hd I J ?_
  obtain ⟨h1, hnx, h2, ha⟩ := hp
  have e : nI nx * 49 = nI (49 * nx) := by rw [show (49 : Int32) = nI 49 from rfl, jn_mul, Nat.mul_comm]
  rw [h1, e]
  refine ⟨⟨by trivial, by trivial, mj_isk_mk _ _⟩, 49 * nx, rfl, by omega, fun A hA => ?_⟩
  have r1 : A 80 1 = nI nx := by rw [hA.2.2 80 1 (by (try dsimp only); omega)]; exact h1
  have r2 : A 80 2 = nI a := by rw [hA.2.2 80 2 (by (try dsimp only); omega)]; exact h2
  rw [r1, r2, jn_succ, jn_succ]
  have c1 : (nI (nx + 1) < 40) = (nx + 1 < 40) := by rw [show (40 : Int32) = nI 40 from rfl, jn_lt (by omega) (by omega)]
  have c2 : (nI a < 40) = (a < 40) := by rw [show (40 : Int32) = nI 40 from rfl, jn_lt (by omega) (by omega)]
  simp only [c1, c2]
  unfold nxA ctA at h
  split
  · rename_i q
    rw [if_pos q] at h
    split
    · rename_i z; rw [if_pos z] at h
      exact h _ ⟨A, hA, fr_ui (fr_ui fr_rf rfl) rfl, by rw [ui_k (by decide), ui_s], ui_s⟩
    · rename_i z; rw [if_neg z] at h
      exact h _ ⟨A, hA, fr_ui fr_rf rfl, ui_s, by rw [ui_k (by decide)]; exact r2⟩
  · rename_i q
    rw [if_neg q] at h
    split
    · rename_i z; rw [if_pos z] at h
      exact h _ ⟨A, hA, fr_ui (fr_ui fr_rf rfl) rfl, by rw [ui_k (by decide), ui_s]; rfl, ui_s⟩
    · rename_i z; rw [if_neg z] at h
      exact h _ ⟨A, hA, fr_ui fr_rf rfl, ui_s, by rw [ui_k (by decide)]; exact r2⟩
theorem sdX0_remember : mj_Sd mX0_remember 2 tX0_remember := by
  intro Ω l d hd as M Φ h
  unfold tX0_remember at h
  split at h
  · rename_i z_this z_q
    obtain ⟨⟨rfl, rfl, hM⟩, nx, a, hp, h⟩ := h
    rw [mj_isk_of hM]
    exact mnX0_remember hd nx a _ _ hp (by
      rw [mj_isk_of hM] at h
      exact h)
  · exact h.elim
def csX0_takeBack : List (Nat × Nat × Nat × mj_PT) := [(26, 0, 3, mj_rcv 3 tX3_readFrom)]
theorem csX0_takeBack_ok : mj_Cs mX0_takeBack 2 csX0_takeBack := (mj_CsV (D' := 1) (ci := 3) (q := (RX3, TX3, 10)) sdX3_readFrom (Nat.le_of_ble_eq_true rfl) fX3_readFrom rfl rfl iX3_readFrom vX3_readFrom (by decide +kernel) l0_26 mj_Cs0)
def cutX0_takeBack : List (Nat × List Bool) := []
set_option maxRecDepth 100000 in
set_option maxHeartbeats 4000000 in
theorem inX0_takeBack {Ω : mj_Om} {l : Launch} {d : Nat} {Φ : Option Value → mj_M → Prop} (hd : 2 ≤ d) (I : Nat → Nat → Int32) (J : Nat → Nat → Int64)
    (h : ((if (I 80 2) < (1 : Int32) then (Φ none (mk I J)) else (if (0 : Int32) < (I 80 1) then ((39 = 39 ∧ 81 = 81 ∧ mj_isk (mk (mj_ui (mj_ui I 80 1 ((I 80 1) - (1 : Int32))) 80 2 ((I 80 2) - (1 : Int32))) J)) ∧ (∃ a337 : Nat, (((I 80 1) - (1 : Int32)) * (49 : Int32)) = nI a337 ∧ ((a337 + 49 ≤ 1960) ∧ (∀ I338 : Nat → Nat → Int32, (rdP (mj_ui (mj_ui I 80 1 ((I 80 1) - (1 : Int32))) 80 2 ((I 80 2) - (1 : Int32))) a337 48 I338) → (Φ none (mk I338 J)))))) else ((39 = 39 ∧ 81 = 81 ∧ mj_isk (mk (mj_ui (mj_ui I 80 1 (39 : Int32)) 80 2 ((I 80 2) - (1 : Int32))) J)) ∧ (∃ a340 : Nat, (1911 : Int32) = nI a340 ∧ ((a340 + 49 ≤ 1960) ∧ (∀ I341 : Nat → Nat → Int32, (rdP (mj_ui (mj_ui I 80 1 (39 : Int32)) 80 2 ((I 80 2) - (1 : Int32))) a340 48 I341) → (Φ none (mk I341 J)))))))))) :
    mj_Met Ω l false mX0_takeBack d 0 0 [.ref 80, .ref 39] (mk I J) Φ := mj_entry (by decide) rfl (fun h => (by cases h)) (Nat.le_of_ble_eq_true rfl) (mj_blk (μ := mX0_takeBack) (P := pX0_takeBack) (cut := cutX0_takeBack) (cs := csX0_takeBack) dX0_takeBack csX0_takeBack_ok hd 32 0 _ h)
def tX0_takeBack : mj_PT := fun as M Φ => match as with
  | [.ref this, .ref q_] => ((this = 80 ∧ q_ = 39 ∧ mj_isk M) ∧ (∃ nx : Nat, (∃ a : Nat, ((M.2.2.1 80 1 = nI nx ∧ nx < 40 ∧ M.2.2.1 80 2 = nI (a + 1) ∧ a < 40) ∧ (∀ I1 : Nat → Nat → Int32, (∃ A : Nat → Nat → Int32, fr (fun c _ => c = 80) M.2.2.1 A ∧ A 80 1 = nI (prA nx) ∧ A 80 2 = nI a ∧ rdP A (49 * prA nx) 48 I1) → Φ none (M.1, M.2.1, I1, M.2.2.2))))))
  | _ => False
theorem mnX0_takeBack {Ω : mj_Om} {l : Launch} {d : Nat} {Φ : Option Value → mj_M → Prop} (hd : 2 ≤ d) (nx : Nat) (a : Nat) (I : Nat → Nat → Int32) (J : Nat → Nat → Int64) (hp : I 80 1 = nI nx ∧ nx < 40 ∧ I 80 2 = nI (a + 1) ∧ a < 40) (h : ∀ I1 : Nat → Nat → Int32, (∃ A : Nat → Nat → Int32, fr (fun c _ => c = 80) I A ∧ A 80 1 = nI (prA nx) ∧ A 80 2 = nI a ∧ rdP A (49 * prA nx) 48 I1) → Φ none (mk I1 J)) : mj_Met Ω l false mX0_takeBack d 0 0 [.ref 80, .ref 39] (mk I J) Φ := by
  refine inX0_takeBack hd I J ?_
  obtain ⟨h1, hnx, h2, ha⟩ := hp
  rw [h1, h2, if_neg (show ¬ nI (a + 1) < (1 : Int32) by rw [show (1 : Int32) = nI 1 from rfl, jn_lt (by omega) (by omega)]; omega)]
  have ea : nI (a + 1) - 1 = nI a := jn_sub (a := a + 1) (b := 1) (by omega)
  rw [ea]
  unfold prA at h
  by_cases q : 0 < nx
  · rw [if_pos (show (0 : Int32) < nI nx by rw [jn_ltx0, jn_cl (by omega)]; exact q)]
    rw [if_pos q] at h
    have en : nI nx - 1 = nI (nx - 1) := jn_sub (a := nx) (b := 1) (by omega)
    have e : nI (nx - 1) * 49 = nI (49 * (nx - 1)) := by rw [show (49 : Int32) = nI 49 from rfl, jn_mul, Nat.mul_comm]
    rw [en, e]
    refine ⟨⟨by trivial, by trivial, mj_isk_mk _ _⟩, 49 * (nx - 1), rfl, by omega, fun A hA => h A ⟨_, fr_ui (fr_ui fr_rf rfl) rfl, by rw [ui_k (by decide), ui_s], ui_s, hA⟩⟩
  · rw [if_neg (show ¬ (0 : Int32) < nI nx by rw [jn_ltx0, jn_cl (by omega)]; exact q)]
    rw [if_neg q] at h
    refine ⟨⟨by trivial, by trivial, mj_isk_mk _ _⟩, 1911, rfl, by omega, fun A hA => h A ⟨_, fr_ui (fr_ui fr_rf rfl) rfl, by rw [ui_k (by decide), ui_s]; rfl, ui_s, hA⟩⟩
theorem sdX0_takeBack : mj_Sd mX0_takeBack 2 tX0_takeBack := by
  intro Ω l d hd as M Φ h
  unfold tX0_takeBack at h
  split at h
  · rename_i z_this z_q
    obtain ⟨⟨rfl, rfl, hM⟩, nx, a, hp, h⟩ := h
    rw [mj_isk_of hM]
    exact mnX0_takeBack hd nx a _ _ hp (by
      rw [mj_isk_of hM] at h
      exact h)
  · exact h.elim
