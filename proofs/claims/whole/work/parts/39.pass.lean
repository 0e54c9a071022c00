/-! ===== the class's seconds: rules asked, all moved, seconds passed (by program, wip/whole/pe.py) ===== -/
theorem lv7_let {n : Nat} {C : Nat → Int32} {F : Vw} {s : Int32} {b : Nat} {g : Nat → Int32} (h : ∀ a, a < 7 → g a = lettV n C F s b a) : lv7 g = lettV n C F s b := by
  funext j
  by_cases q : j < 7
  · rw [lv7_at q]; exact h j q
  · have e : lv7 g j = 0 := by simp [lv7, q]
    rw [e]
    unfold lettV
    split <;> first | omega | rfl
theorem asp_0 {v m : Int32} : asp v m 0 = v := by
  unfold asp
  rw [if_neg (by decide), if_neg (by decide)]
theorem isCF_b {c f : Nat} (h : isCF c f) : (26 ≤ c ∧ c ≤ 28) ∧ (39 ≤ f ∧ f ≤ 57) := by unfold isCF at h; omega
theorem blv_c {F G : Vw} {b : Nat} (h1 : F 1 b = G 1 b) (h4 : F 4 b = G 4 b) (h6 : F 6 b = G 6 b) : blv F b = blv G b := by unfold blv; rw [h1, h4, h6]
def csX4_askRules : List (Nat × Nat × Nat × mj_PT) := [(43, 0, 2, mj_rcv 1 tX1_secondsLeft), (57, 0, 2, mj_rcv 3 tX3_speedUp), (75, 0, 2, mj_rcv 6 tX6_has), (78, 0, 2, mj_rcv 3 tX3_believedBack), (85, 0, 2, mj_rcv 3 tX3_countBeside), (88, 0, 2, mj_rcv 3 tX3_isLeewardHeld), (91, 0, 3, mj_rcv 6 tX6_worthOf), (95, 0, 2, mj_rcv 3 tX3_slowDown)]
theorem csX4_askRules_ok : mj_Cs mX4_askRules 3 csX4_askRules := (mj_CsV (D' := 1) (ci := 1) (q := (RX1, TX1, 1)) sdX1_secondsLeft (Nat.le_of_ble_eq_true rfl) fX1_secondsLeft rfl rfl iX1_secondsLeft vX1_secondsLeft (by decide +kernel) l4_43 (mj_CsV (D' := 1) (ci := 3) (q := (RX3, TX3, 10)) sdX3_speedUp (Nat.le_of_ble_eq_true rfl) fX3_speedUp rfl rfl iX3_speedUp vX3_speedUp (by decide +kernel) l4_57 (mj_CsV (D' := 1) (ci := 6) (q := (RX6, TX6, 4)) sdX6_has (Nat.le_of_ble_eq_true rfl) fX6_has rfl rfl iX6_has vX6_has (by decide +kernel) l4_75 (mj_CsV (D' := 1) (ci := 3) (q := (RX3, TX3, 10)) sdX3_believedBack (Nat.le_of_ble_eq_true rfl) fX3_believedBack rfl rfl iX3_believedBack vX3_believedBack (by decide +kernel) l4_78 (mj_CsV (D' := 2) (ci := 3) (q := (RX3, TX3, 10)) sdX3_countBeside (Nat.le_of_ble_eq_true rfl) fX3_countBeside rfl rfl iX3_countBeside vX3_countBeside (by decide +kernel) l4_85 (mj_CsV (D' := 2) (ci := 3) (q := (RX3, TX3, 10)) sdX3_isLeewardHeld (Nat.le_of_ble_eq_true rfl) fX3_isLeewardHeld rfl rfl iX3_isLeewardHeld vX3_isLeewardHeld (by decide +kernel) l4_88 (mj_CsV (D' := 2) (ci := 6) (q := (RX6, TX6, 4)) sdX6_worthOf (Nat.le_of_ble_eq_true rfl) fX6_worthOf rfl rfl iX6_worthOf vX6_worthOf (by decide +kernel) l4_91 (mj_CsV (D' := 1) (ci := 3) (q := (RX3, TX3, 10)) sdX3_slowDown (Nat.le_of_ble_eq_true rfl) fX3_slowDown rfl rfl iX3_slowDown vX3_slowDown (by decide +kernel) l4_95 mj_Cs0))))))))
def cutX4_askRules : List (Nat × List Bool) := [(3, [true, true, true, true, true, false]), (50, [true, true, true, true, true, false]), (61, [true, true, true, true, true, false]), (74, [true, true, true, true, true, false]), (87, [true, true, true, true, true, false]), (99, [true, true, true, true, true, false]), (112, [true, true, true, true, true, false]), (133, [true, true, true, true, true, false]), (153, [true, true, true, true, true, true])]
def pX4_askRules_0 : List (Nat × Instr × Nat) := [(0, .iconst 0, 1), (1, .istore 4, 2), (3, .iload 4, 2)]
set_option maxRecDepth 100000 in
theorem dX4_askRules_0 : mj_pd cX4_askRules pX4_askRules_0 := mj_pdB (by decide +kernel)
set_option maxRecDepth 100000 in
set_option maxHeartbeats 4000000 in
theorem inX4_askRules {Ω : mj_Om} {l : Launch} {d : Nat} {Φ : Option Value → mj_M → Prop} (hd : 3 ≤ d) (c f : Nat) (hf : isCF c f) (sk : Int32) (I : Nat → Nat → Int32) (J : Nat → Nat → Int64)
    (h : ((mj_G Ω l false mX4_askRules d 0 0 Φ 0 0 3 ([some (.ref 75), some (.ref c), some (.ref f), some (.int sk), some (.int (0 : Int32)), none], [], (mk I J))))) :
    mj_Met Ω l false mX4_askRules d 0 0 [.ref 75, .ref c, .ref f, .int sk] (mk I J) Φ := by
  rcases hf with ⟨rfl, rfl⟩ | ⟨rfl, rfl⟩ | ⟨rfl, rfl⟩ | ⟨rfl, rfl⟩ <;> exact mj_entry (by decide) rfl (fun h => (by cases h)) (Nat.le_of_ble_eq_true rfl) (mj_blk (μ := mX4_askRules) (P := pX4_askRules_0) (cut := cutX4_askRules) (cs := csX4_askRules) dX4_askRules_0 csX4_askRules_ok hd 4 0 _ h)
def pX4_askRules_3 : List (Nat × Instr × Nat) := [(3, .iload 4, 2), (5, .aload_n 2, 1), (6, .getfield 61, 3), (9, .if_icmp .ge 175, 3), (12, .iload 4, 2), (14, .iload_n 3, 1), (15, .if_icmp .eq 163, 3), (18, .aload_n 0, 1), (19, .getfield 23, 3), (22, .aload_n 2, 1), (23, .getfield 72, 3), (26, .iload 4, 2), (28, .iaload, 1), (29, .invokevirtual 75, 3), (32, .ifCond .ne 6, 3), (35, .goto 143, 3), (38, .aload_n 0, 1), (39, .getfield 11, 3), (42, .iconst 0, 1), (43, .aload_n 2, 1), (44, .iload 4, 2), (46, .invokevirtual 78, 3), (49, .iastore, 1), (50, .aload_n 0, 1), (178, .iinc 4 1, 3), (181, .goto (-178), 3), (184, .return_, 1)]
set_option maxRecDepth 100000 in
theorem dX4_askRules_3 : mj_pd cX4_askRules pX4_askRules_3 := mj_pdB (by decide +kernel)
set_option maxRecDepth 100000 in
set_option maxHeartbeats 4000000 in
theorem bX4_askRules_3 {Ω : mj_Om} {l : Launch} {d : Nat} {Φ : Option Value → mj_M → Prop} (hd : 3 ≤ d) (c f : Nat) (hf : isCF c f) (x3 : Int32) (x4 : Int32) (I : Nat → Nat → Int32) (J : Nat → Nat → Int64)
    (h : ((if x4 < (I f 8) then (if x4 = x3 then (mj_G Ω l false mX4_askRules d 0 0 Φ 0 0 3 ([some (.ref 75), some (.ref c), some (.ref f), some (.int x3), some (.int (x4 + (1 : Int32))), none], [], (mk I J))) else (mj_gd (mj_inB x4 8) (if (I (f + 6) (x4).toNatClampNeg) < (0 : Int32) then (mj_G Ω l false mX4_askRules d 0 0 Φ 0 0 3 ([some (.ref 75), some (.ref c), some (.ref f), some (.int x3), some (.int (x4 + (1 : Int32))), none], [], (mk I J))) else (if (I (f + 6) (x4).toNatClampNeg) < (I 3 3) then ((isF3 f ∧ mj_isk (mk I J)) ∧ (∃ b44 : Nat, x4 = nI b44 ∧ ((okF I f ∧ b44 < nF I f) ∧ (mj_G Ω l false mX4_askRules d 0 0 Φ 0 0 50 ([some (.ref 75), some (.ref c), some (.ref f), some (.int x3), some (.int x4), none], [], (mk (mj_ui I 76 0 (blv (VF I f) b44)) J)))))) else (mj_G Ω l false mX4_askRules d 0 0 Φ 0 0 3 ([some (.ref 75), some (.ref c), some (.ref f), some (.int x3), some (.int (x4 + (1 : Int32))), none], [], (mk I J))))))) else (Φ none (mk I J))))) :
    mj_G Ω l false mX4_askRules d 0 0 Φ 0 0 3 ([some (.ref 75), some (.ref c), some (.ref f), some (.int x3), some (.int x4), none], [], mk I J) := by
  rcases hf with ⟨rfl, rfl⟩ | ⟨rfl, rfl⟩ | ⟨rfl, rfl⟩ | ⟨rfl, rfl⟩ <;> exact mj_blk (μ := mX4_askRules) (P := pX4_askRules_3) (cut := cutX4_askRules) (cs := csX4_askRules) dX4_askRules_3 csX4_askRules_ok hd 28 3 _ h
def pX4_askRules_50 : List (Nat × Instr × Nat) := [(50, .aload_n 0, 1), (51, .getfield 11, 3), (54, .iconst 1, 1), (55, .aload_n 1, 1), (56, .aload_n 2, 1), (57, .invokevirtual 43, 3), (60, .iastore, 1), (61, .aload_n 0, 1)]
set_option maxRecDepth 100000 in
theorem dX4_askRules_50 : mj_pd cX4_askRules pX4_askRules_50 := mj_pdB (by decide +kernel)
set_option maxRecDepth 100000 in
set_option maxHeartbeats 4000000 in
theorem bX4_askRules_50 {Ω : mj_Om} {l : Launch} {d : Nat} {Φ : Option Value → mj_M → Prop} (hd : 3 ≤ d) (c f : Nat) (hf : isCF c f) (x3 : Int32) (x4 : Int32) (I : Nat → Nat → Int32) (J : Nat → Nat → Int64)
    (h : ((mj_G Ω l false mX4_askRules d 0 0 Φ 0 0 61 ([some (.ref 75), some (.ref c), some (.ref f), some (.int x3), some (.int x4), none], [], (mk (mj_ui I 76 1 ((I (c + 1) 5) - (I f 9))) J))))) :
    mj_G Ω l false mX4_askRules d 0 0 Φ 0 0 50 ([some (.ref 75), some (.ref c), some (.ref f), some (.int x3), some (.int x4), none], [], mk I J) := by
  rcases hf with ⟨rfl, rfl⟩ | ⟨rfl, rfl⟩ | ⟨rfl, rfl⟩ | ⟨rfl, rfl⟩ <;> exact mj_blk (μ := mX4_askRules) (P := pX4_askRules_50) (cut := cutX4_askRules) (cs := csX4_askRules) dX4_askRules_50 csX4_askRules_ok hd 9 50 _ h
def pX4_askRules_61 : List (Nat × Instr × Nat) := [(61, .aload_n 0, 1), (62, .getfield 11, 3), (65, .iconst 2, 1), (66, .aload_n 2, 1), (67, .getfield 52, 3), (70, .iload 4, 2), (72, .iaload, 1), (73, .iastore, 1), (74, .aload_n 0, 1)]
set_option maxRecDepth 100000 in
theorem dX4_askRules_61 : mj_pd cX4_askRules pX4_askRules_61 := mj_pdB (by decide +kernel)
set_option maxRecDepth 100000 in
set_option maxHeartbeats 4000000 in
theorem bX4_askRules_61 {Ω : mj_Om} {l : Launch} {d : Nat} {Φ : Option Value → mj_M → Prop} (hd : 3 ≤ d) (c f : Nat) (hf : isCF c f) (x3 : Int32) (x4 : Int32) (I : Nat → Nat → Int32) (J : Nat → Nat → Int64)
    (h : ((mj_gd (mj_inB x4 8) (mj_G Ω l false mX4_askRules d 0 0 Φ 0 0 74 ([some (.ref 75), some (.ref c), some (.ref f), some (.int x3), some (.int x4), none], [], (mk (mj_ui I 76 2 (I (f + 3) (x4).toNatClampNeg)) J)))))) :
    mj_G Ω l false mX4_askRules d 0 0 Φ 0 0 61 ([some (.ref 75), some (.ref c), some (.ref f), some (.int x3), some (.int x4), none], [], mk I J) := by
  rcases hf with ⟨rfl, rfl⟩ | ⟨rfl, rfl⟩ | ⟨rfl, rfl⟩ | ⟨rfl, rfl⟩ <;> exact mj_blk (μ := mX4_askRules) (P := pX4_askRules_61) (cut := cutX4_askRules) (cs := csX4_askRules) dX4_askRules_61 csX4_askRules_ok hd 10 61 _ h
def pX4_askRules_74 : List (Nat × Instr × Nat) := [(74, .aload_n 0, 1), (75, .getfield 11, 3), (78, .iconst 3, 1), (79, .aload_n 2, 1), (80, .getfield 82, 3), (83, .iload 4, 2), (85, .iaload, 1), (86, .iastore, 1), (87, .aload_n 0, 1)]
set_option maxRecDepth 100000 in
theorem dX4_askRules_74 : mj_pd cX4_askRules pX4_askRules_74 := mj_pdB (by decide +kernel)
set_option maxRecDepth 100000 in
set_option maxHeartbeats 4000000 in
theorem bX4_askRules_74 {Ω : mj_Om} {l : Launch} {d : Nat} {Φ : Option Value → mj_M → Prop} (hd : 3 ≤ d) (c f : Nat) (hf : isCF c f) (x3 : Int32) (x4 : Int32) (I : Nat → Nat → Int32) (J : Nat → Nat → Int64)
    (h : ((mj_gd (mj_inB x4 8) (mj_G Ω l false mX4_askRules d 0 0 Φ 0 0 87 ([some (.ref 75), some (.ref c), some (.ref f), some (.int x3), some (.int x4), none], [], (mk (mj_ui I 76 3 (I (f + 1) (x4).toNatClampNeg)) J)))))) :
    mj_G Ω l false mX4_askRules d 0 0 Φ 0 0 74 ([some (.ref 75), some (.ref c), some (.ref f), some (.int x3), some (.int x4), none], [], mk I J) := by
  rcases hf with ⟨rfl, rfl⟩ | ⟨rfl, rfl⟩ | ⟨rfl, rfl⟩ | ⟨rfl, rfl⟩ <;> exact mj_blk (μ := mX4_askRules) (P := pX4_askRules_74) (cut := cutX4_askRules) (cs := csX4_askRules) dX4_askRules_74 csX4_askRules_ok hd 10 74 _ h
def pX4_askRules_87 : List (Nat × Instr × Nat) := [(87, .aload_n 0, 1), (88, .getfield 11, 3), (91, .iconst 4, 1), (92, .aload_n 2, 1), (93, .iload 4, 2), (95, .invokevirtual 85, 3), (98, .iastore, 1), (99, .aload_n 0, 1)]
set_option maxRecDepth 100000 in
theorem dX4_askRules_87 : mj_pd cX4_askRules pX4_askRules_87 := mj_pdB (by decide +kernel)
set_option maxRecDepth 100000 in
set_option maxHeartbeats 4000000 in
theorem bX4_askRules_87 {Ω : mj_Om} {l : Launch} {d : Nat} {Φ : Option Value → mj_M → Prop} (hd : 3 ≤ d) (c f : Nat) (hf : isCF c f) (x3 : Int32) (x4 : Int32) (I : Nat → Nat → Int32) (J : Nat → Nat → Int64)
    (h : (((isF3 f ∧ mj_isk (mk I J)) ∧ ((okF I f ∧ isB (nF I f) x4) ∧ (mj_G Ω l false mX4_askRules d 0 0 Φ 0 0 99 ([some (.ref 75), some (.ref c), some (.ref f), some (.int x3), some (.int x4), none], [], (mk (mj_ui I 76 4 (nI (nbs (nF I f) (VF I f) (x4).toNatClampNeg))) J))))))) :
    mj_G Ω l false mX4_askRules d 0 0 Φ 0 0 87 ([some (.ref 75), some (.ref c), some (.ref f), some (.int x3), some (.int x4), none], [], mk I J) := by
  rcases hf with ⟨rfl, rfl⟩ | ⟨rfl, rfl⟩ | ⟨rfl, rfl⟩ | ⟨rfl, rfl⟩ <;> exact mj_blk (μ := mX4_askRules) (P := pX4_askRules_87) (cut := cutX4_askRules) (cs := csX4_askRules) dX4_askRules_87 csX4_askRules_ok hd 9 87 _ h
def pX4_askRules_99 : List (Nat × Instr × Nat) := [(99, .aload_n 0, 1), (100, .getfield 11, 3), (103, .iconst 5, 1), (104, .aload_n 0, 1), (105, .getfield 17, 3), (108, .iload 4, 2), (110, .iaload, 1), (111, .iastore, 1), (112, .aload_n 0, 1)]
set_option maxRecDepth 100000 in
theorem dX4_askRules_99 : mj_pd cX4_askRules pX4_askRules_99 := mj_pdB (by decide +kernel)
set_option maxRecDepth 100000 in
set_option maxHeartbeats 4000000 in
theorem bX4_askRules_99 {Ω : mj_Om} {l : Launch} {d : Nat} {Φ : Option Value → mj_M → Prop} (hd : 3 ≤ d) (c f : Nat) (hf : isCF c f) (x3 : Int32) (x4 : Int32) (I : Nat → Nat → Int32) (J : Nat → Nat → Int64)
    (h : ((mj_gd (mj_inB x4 8) (mj_G Ω l false mX4_askRules d 0 0 Φ 0 0 112 ([some (.ref 75), some (.ref c), some (.ref f), some (.int x3), some (.int x4), none], [], (mk (mj_ui I 76 5 (I 77 (x4).toNatClampNeg)) J)))))) :
    mj_G Ω l false mX4_askRules d 0 0 Φ 0 0 99 ([some (.ref 75), some (.ref c), some (.ref f), some (.int x3), some (.int x4), none], [], mk I J) := by
  rcases hf with ⟨rfl, rfl⟩ | ⟨rfl, rfl⟩ | ⟨rfl, rfl⟩ | ⟨rfl, rfl⟩ <;> exact mj_blk (μ := mX4_askRules) (P := pX4_askRules_99) (cut := cutX4_askRules) (cs := csX4_askRules) dX4_askRules_99 csX4_askRules_ok hd 10 99 _ h
def pX4_askRules_112 : List (Nat × Instr × Nat) := [(112, .aload_n 0, 1), (113, .getfield 11, 3), (116, .bipush 6, 2), (118, .aload_n 2, 1), (119, .iload 4, 2), (121, .invokevirtual 88, 3), (124, .ifCond .eq 7, 3), (127, .iconst 1, 1), (128, .goto 4, 3), (131, .iconst 0, 1), (132, .iastore, 1), (133, .aload_n 0, 1)]
set_option maxRecDepth 100000 in
theorem dX4_askRules_112 : mj_pd cX4_askRules pX4_askRules_112 := mj_pdB (by decide +kernel)
set_option maxRecDepth 100000 in
set_option maxHeartbeats 4000000 in
theorem bX4_askRules_112 {Ω : mj_Om} {l : Launch} {d : Nat} {Φ : Option Value → mj_M → Prop} (hd : 3 ≤ d) (c f : Nat) (hf : isCF c f) (x3 : Int32) (x4 : Int32) (I : Nat → Nat → Int32) (J : Nat → Nat → Int64)
    (h : (((isF3 f ∧ mj_isk (mk I J)) ∧ (∃ b47 : Nat, x4 = nI b47 ∧ ((okF I f ∧ b47 < nF I f) ∧ (if (b2i (lee (nF I f) (VF I f) b47)) = (0 : Int32) then (mj_G Ω l false mX4_askRules d 0 0 Φ 0 0 133 ([some (.ref 75), some (.ref c), some (.ref f), some (.int x3), some (.int x4), none], [], (mk (mj_ui I 76 6 (0 : Int32)) J))) else (mj_G Ω l false mX4_askRules d 0 0 Φ 0 0 133 ([some (.ref 75), some (.ref c), some (.ref f), some (.int x3), some (.int x4), none], [], (mk (mj_ui I 76 6 (1 : Int32)) J))))))))) :
    mj_G Ω l false mX4_askRules d 0 0 Φ 0 0 112 ([some (.ref 75), some (.ref c), some (.ref f), some (.int x3), some (.int x4), none], [], mk I J) := by
  rcases hf with ⟨rfl, rfl⟩ | ⟨rfl, rfl⟩ | ⟨rfl, rfl⟩ | ⟨rfl, rfl⟩ <;> exact mj_blk (μ := mX4_askRules) (P := pX4_askRules_112) (cut := cutX4_askRules) (cs := csX4_askRules) dX4_askRules_112 csX4_askRules_ok hd 13 112 _ h
def pX4_askRules_133 : List (Nat × Instr × Nat) := [(133, .aload_n 0, 1), (134, .getfield 23, 3), (137, .aload_n 2, 1), (138, .getfield 72, 3), (141, .iload 4, 2), (143, .iaload, 1), (144, .aload_n 0, 1), (145, .getfield 11, 3), (148, .invokevirtual 91, 3), (151, .istore 5, 2), (153, .iload 5, 2)]
set_option maxRecDepth 100000 in
theorem dX4_askRules_133 : mj_pd cX4_askRules pX4_askRules_133 := mj_pdB (by decide +kernel)
set_option maxRecDepth 100000 in
set_option maxHeartbeats 4000000 in
theorem bX4_askRules_133 {Ω : mj_Om} {l : Launch} {d : Nat} {Φ : Option Value → mj_M → Prop} (hd : 3 ≤ d) (c f : Nat) (hf : isCF c f) (x3 : Int32) (x4 : Int32) (I : Nat → Nat → Int32) (J : Nat → Nat → Int64)
    (h : ((mj_gd (mj_inB x4 8) ((3 = 3 ∧ 76 = 76 ∧ mj_isk (mk I J)) ∧ (∃ k50 : Nat, (I (f + 6) (x4).toNatClampNeg) = nI k50 ∧ isK k50 ∧ (∃ n51 : Nat, (∃ R52 : RF, ((RuC I n51 R52 ∧ k50 < n51 ∧ letB (lv7 (I 76))) ∧ (∀ I53 : Nat → Nat → Int32, (fr (fun c _ => c = 10) I I53) → (mj_G Ω l false mX4_askRules d 0 0 Φ 0 0 153 ([some (.ref 75), some (.ref c), some (.ref f), some (.int x3), some (.int x4), some (.int (R52 (nI k50) (lv7 (I 76))))], [], (mk I53 J)))))))))))) :
    mj_G Ω l false mX4_askRules d 0 0 Φ 0 0 133 ([some (.ref 75), some (.ref c), some (.ref f), some (.int x3), some (.int x4), none], [], mk I J) := by
  rcases hf with ⟨rfl, rfl⟩ | ⟨rfl, rfl⟩ | ⟨rfl, rfl⟩ | ⟨rfl, rfl⟩ <;> exact mj_blk (μ := mX4_askRules) (P := pX4_askRules_133) (cut := cutX4_askRules) (cs := csX4_askRules) dX4_askRules_133 csX4_askRules_ok hd 12 133 _ h
def pX4_askRules_153 : List (Nat × Instr × Nat) := [(3, .iload 4, 2), (153, .iload 5, 2), (155, .ifCond .le 12, 3), (158, .aload_n 2, 1), (159, .iload 4, 2), (161, .invokevirtual 57, 3), (164, .goto 14, 3), (167, .iload 5, 2), (169, .ifCond .ge 9, 3), (172, .aload_n 2, 1), (173, .iload 4, 2), (175, .invokevirtual 95, 3), (178, .iinc 4 1, 3), (181, .goto (-178), 3)]
set_option maxRecDepth 100000 in
theorem dX4_askRules_153 : mj_pd cX4_askRules pX4_askRules_153 := mj_pdB (by decide +kernel)
set_option maxRecDepth 100000 in
set_option maxHeartbeats 4000000 in
theorem bX4_askRules_153 {Ω : mj_Om} {l : Launch} {d : Nat} {Φ : Option Value → mj_M → Prop} (hd : 3 ≤ d) (c f : Nat) (hf : isCF c f) (x3 : Int32) (x4 : Int32) (x5 : Int32) (I : Nat → Nat → Int32) (J : Nat → Nat → Int64)
    (h : ((if (0 : Int32) < x5 then (mj_gd (mj_inB x4 8) (mj_gd (mj_inB x4 8) (if (I (f + 3) (x4).toNatClampNeg) < (I (f + 4) (x4).toNatClampNeg) then (mj_gd (mj_inB x4 8) (mj_gd (mj_inB x4 8) (mj_G Ω l false mX4_askRules d 0 0 Φ 0 0 3 ([some (.ref 75), some (.ref c), some (.ref f), some (.int x3), some (.int (x4 + (1 : Int32))), none], [], (mk (mj_ui I (f + 3) (x4).toNatClampNeg ((I (f + 3) (x4).toNatClampNeg) + (1 : Int32))) J))))) else (mj_G Ω l false mX4_askRules d 0 0 Φ 0 0 3 ([some (.ref 75), some (.ref c), some (.ref f), some (.int x3), some (.int (x4 + (1 : Int32))), none], [], (mk I J)))))) else (if x5 < (0 : Int32) then (mj_gd (mj_inB x4 8) (if (0 : Int32) < (I (f + 3) (x4).toNatClampNeg) then (mj_gd (mj_inB x4 8) (mj_gd (mj_inB x4 8) (mj_G Ω l false mX4_askRules d 0 0 Φ 0 0 3 ([some (.ref 75), some (.ref c), some (.ref f), some (.int x3), some (.int (x4 + (1 : Int32))), none], [], (mk (mj_ui I (f + 3) (x4).toNatClampNeg ((I (f + 3) (x4).toNatClampNeg) - (1 : Int32))) J))))) else (mj_G Ω l false mX4_askRules d 0 0 Φ 0 0 3 ([some (.ref 75), some (.ref c), some (.ref f), some (.int x3), some (.int (x4 + (1 : Int32))), none], [], (mk I J))))) else (mj_G Ω l false mX4_askRules d 0 0 Φ 0 0 3 ([some (.ref 75), some (.ref c), some (.ref f), some (.int x3), some (.int (x4 + (1 : Int32))), none], [], (mk I J))))))) :
    mj_G Ω l false mX4_askRules d 0 0 Φ 0 0 153 ([some (.ref 75), some (.ref c), some (.ref f), some (.int x3), some (.int x4), some (.int x5)], [], mk I J) := by
  rcases hf with ⟨rfl, rfl⟩ | ⟨rfl, rfl⟩ | ⟨rfl, rfl⟩ | ⟨rfl, rfl⟩ <;> exact mj_blk (μ := mX4_askRules) (P := pX4_askRules_153) (cut := cutX4_askRules) (cs := csX4_askRules) dX4_askRules_153 csX4_askRules_ok hd 15 153 _ h
def tX4_askRules : mj_PT := fun as M Φ => match as with
  | [.ref this, .ref c_, .ref f_, .int sk] => ((this = 75 ∧ isCF c_ f_ ∧ mj_isk M) ∧ (∃ u : Int, (∃ m : Nat, (∃ R : RF, ((u ≤ 1000 ∧ FC u M.2.2.1 c_ f_ ∧ RuC M.2.2.1 m R ∧ (∀ b, b < nF M.2.2.1 f_ → M.2.2.1 77 b = shV (nF M.2.2.1 f_) (VF M.2.2.1 f_) b)) ∧ (∀ I1 : Nat → Nat → Int32, (VF I1 f_ = askV (nF M.2.2.1 f_) (lv7 (M.2.2.1 (c_ + 1))) R (VF M.2.2.1 f_) (M.2.2.1 f_ 9) sk ∧ fr (fun c _ => c = f_ + 3 ∨ c = 76 ∨ c = 10) M.2.2.1 I1) → Φ none (M.1, M.2.1, I1, M.2.2.2)))))))
  | _ => False
set_option maxHeartbeats 8000000 in
theorem mnX4_askRules {Ω : mj_Om} {l : Launch} {d : Nat} {Φ : Option Value → mj_M → Prop} (hd : 3 ≤ d) (c f : Nat) (hf : isCF c f) (sk : Int32) (u : Int) (m : Nat) (R : RF) (I : Nat → Nat → Int32) (J : Nat → Nat → Int64) (hp : u ≤ 1000 ∧ FC u I c f ∧ RuC I m R ∧ (∀ b, b < nF I f → I 77 b = shV (nF I f) (VF I f) b)) (h : ∀ I1 : Nat → Nat → Int32, (VF I1 f = askV (nF I f) (lv7 (I (c + 1))) R (VF I f) (I f 9) sk ∧ fr (fun c _ => c = f + 3 ∨ c = 76 ∨ c = 10) I I1) → Φ none (mk I1 J)) : mj_Met Ω l false mX4_askRules d 0 0 [.ref 75, .ref c, .ref f, .int sk] (mk I J) Φ := by
  refine inX4_askRules hd c f hf sk I J ?_
  obtain ⟨hu, ⟨⟨hc, hn⟩, hF⟩, hR, h77⟩ := hp
  have hR2 := hR
  obtain ⟨K, ⟨h33, hm4, -⟩, hRe⟩ := hR2
  have hcf := isCF_b hf
  have hAV := askI_V (nF I f) (lv7 (I (c + 1))) R (VF I f) (I f 9) sk
  rw [← hAV] at h
  refine lp_inv (σ := Nat → Nat → Int32) (n := nF I f) (G := fun i I' => mj_G Ω l false mX4_askRules d 0 0 Φ 0 0 3 ([some (.ref 75), some (.ref c), some (.ref f), some (.int sk), some (.int (nI i)), none], [], mk I' J)) (fun i I' => VF I' f = askI (nF I f) (lv7 (I (c + 1))) R (VF I f) (I f 9) sk i ∧ fr (fun c _ => c = f + 3 ∨ c = 76 ∨ c = 10) I I') (fun i I' hi hI hk => ?_) (fun I' hI => ?_) (nF I f) 0 I (by omega) ⟨(askI_0 _ _ _ _ _ _).symm, fr_rf⟩
  · refine bX4_askRules_3 hd c f hf sk (nI i) I' J ?_
    obtain ⟨hV, hfr⟩ := hI
    obtain ⟨e8, en⟩ := fr_n hfr (f := f) (by (try dsimp only); omega)
    have hok := fr_okF hfr (f := f) (by (try dsimp only); omega) ⟨hc, hn⟩
    rw [hc] at e8
    have e33 : I' 3 3 = nI m := by rw [hfr 3 3 (by (try dsimp only); omega)]; exact h33
    have q0 : VF I' f 0 = VF I f 0 := by rw [hV]; funext b; exact askI_k (by decide)
    have q1 : VF I' f 1 = VF I f 1 := by rw [hV]; funext b; exact askI_k (by decide)
    have q2 : VF I' f 2 i = VF I f 2 i := by rw [hV]; exact askI_2
    have q3 : VF I' f 3 i = VF I f 3 i := by rw [hV]; exact askI_k (by decide)
    have q4 : VF I' f 4 i = VF I f 4 i := by rw [hV]; exact askI_k (by decide)
    have q5 : VF I' f 5 i = VF I f 5 i := by rw [hV]; exact askI_k (by decide)
    have q6 : VF I' f 6 i = VF I f 6 i := by rw [hV]; exact askI_k (by decide)
    have r5 := VF_5 (I := I') (f := f) (b := i) (by omega)
    rw [q5] at r5
    have nx : ∀ (I2 : Nat → Nat → Int32) (v : Int32), fr (fun c _ => c = f + 3 ∨ c = 76 ∨ c = 10) I I2 → VF I2 f = vup (VF I' f) 2 i v → v = (if nI i = sk then VF I f 2 i else asp (VF I f 2 i) (VF I f 3 i) (R (VF I f 5 i) (lettV (nF I f) (lv7 (I (c + 1))) (VF I f) (I f 9) i))) → mj_G Ω l false mX4_askRules d 0 0 Φ 0 0 3 ([some (.ref 75), some (.ref c), some (.ref f), some (.int sk), some (.int (nI (i + 1))), none], [], mk I2 J) := fun I2 v h1 h2 h3 => hk I2 ⟨by rw [askI_s, h2, hV, h3], h1⟩
    have nx0 : (if nI i = sk then VF I f 2 i else asp (VF I f 2 i) (VF I f 3 i) (R (VF I f 5 i) (lettV (nF I f) (lv7 (I (c + 1))) (VF I f) (I f 9) i))) = VF I f 2 i → mj_G Ω l false mX4_askRules d 0 0 Φ 0 0 3 ([some (.ref 75), some (.ref c), some (.ref f), some (.int sk), some (.int (nI (i + 1))), none], [], mk I' J) := fun h3 => nx I' (VF I f 2 i) hfr (by rw [← q2, vup_id]) h3.symm
    rw [e8, if_pos (by rw [jn_lt (by omega) (by omega)]; exact hi), jn_succ]
    split
    · rename_i z; exact nx0 (if_pos z)
    rename_i z
    simp (disch := omega) only [jn_in, jn_cl, gd_dec]
    rw [← r5, e33]
    rw [if_neg z] at nx0
    simp only [if_neg z] at nx
    split
    · rename_i z2
      exact nx0 (by rw [hRe, rfK_0 (fun w => by have := w.1; rw [Int32.lt_iff_toInt_lt] at z2; rw [Int32.le_iff_toInt_le] at this; omega), asp_0])
    rename_i z2
    by_cases z3 : VF I f 5 i < nI m
    case neg =>
      rw [if_neg z3]
      exact nx0 (by rw [hRe, rfK_0 (fun w => z3 w.2), asp_0])
    rw [if_pos z3]
    refine ⟨⟨isCF_f hf, mj_isk_mk _ _⟩, i, rfl, ⟨hok, by omega⟩, ?_⟩
    have rd : ∀ I'' : Nat → Nat → Int32, fr (fun c _ => c = 76) I' I'' → okF I'' f ∧ nF I'' f = nF I f ∧ VF I'' f = VF I' f ∧ I'' (c + 1) 5 = lv7 (I (c + 1)) 5 ∧ I'' f 9 = I f 9 ∧ I'' 77 i = shV (nF I f) (VF I f) i := by
      intro I'' hq
      obtain ⟨w1, w2, w3, w4⟩ := FF_fr (I := I') (I1 := I'') (f := f) (fun c k h1 h2 => hq c k (by (try dsimp only); omega))
      refine ⟨w3 hok, by rw [w1, en], w2, ?_, ?_, ?_⟩
      · rw [hq _ _ (by (try dsimp only); omega), hfr _ _ (by (try dsimp only); omega), lv7_at (by decide)]
      · rw [w4, hfr _ _ (by (try dsimp only); omega)]
      · rw [hq _ _ (by (try dsimp only); omega), hfr _ _ (by (try dsimp only); omega)]; exact h77 i hi
    have up : ∀ (j : Nat) (I'' : Nat → Nat → Int32) (v : Int32), (fr (fun c _ => c = 76) I' I'' ∧ ∀ a, a < j → I'' 76 a = lettV (nF I f) (lv7 (I (c + 1))) (VF I f) (I f 9) i a) → v = lettV (nF I f) (lv7 (I (c + 1))) (VF I f) (I f 9) i j → (fr (fun c _ => c = 76) I' (mj_ui I'' 76 j v) ∧ ∀ a, a < j + 1 → (mj_ui I'' 76 j v) 76 a = lettV (nF I f) (lv7 (I (c + 1))) (VF I f) (I f 9) i a) := by
      intro j I'' v hP hv
      refine ⟨fr_ui hP.1 rfl, fun a ha => ?_⟩
      by_cases w : a = j
      · rw [w, ui_s, hv]
      · rw [ui_k w]; exact hP.2 a (by omega)
    have s0 := up 0 I' (blv (VF I' f) i) ⟨fr_rf, fun a ha => absurd ha (Nat.not_lt_zero a)⟩ (blv_c (by rw [q1]) q4 q6)
    generalize (mj_ui I' 76 0 (blv (VF I' f) i)) = A0 at s0 ⊢
    refine bX4_askRules_50 hd c f hf sk (nI i) A0 J ?_
    obtain ⟨-, -, -, w5, w9, -⟩ := rd A0 s0.1
    rw [w5, w9]
    have s1 := up 1 A0 _ s0 (show lv7 (I (c + 1)) 5 - I f 9 = _ from rfl)
    generalize (mj_ui A0 76 1 (lv7 (I (c + 1)) 5 - I f 9)) = A1 at s1 ⊢
    refine bX4_askRules_61 hd c f hf sk (nI i) A1 J ?_
    obtain ⟨-, wn, wV, -, -, -⟩ := rd A1 s1.1
    simp (disch := omega) only [jn_in, jn_cl, gd_dec]
    rw [← VF_2 (I := A1) (f := f) (b := i) (by omega), wV]
    have s2 := up 2 A1 _ s1 (show VF I' f 2 i = _ from q2)
    generalize (mj_ui A1 76 2 (VF I' f 2 i)) = A2 at s2 ⊢
    refine bX4_askRules_74 hd c f hf sk (nI i) A2 J ?_
    obtain ⟨-, wn2, wV2, -, -, -⟩ := rd A2 s2.1
    simp (disch := omega) only [jn_in, jn_cl, gd_dec]
    rw [← VF_0 (I := A2) (f := f) (b := i) (by omega), wV2]
    have s3 := up 3 A2 _ s2 (show VF I' f 0 i = _ by rw [q0]; rfl)
    generalize (mj_ui A2 76 3 (VF I' f 0 i)) = A3 at s3 ⊢
    refine bX4_askRules_87 hd c f hf sk (nI i) A3 J ?_
    obtain ⟨wo3, wn3, wV3, -, -, -⟩ := rd A3 s3.1
    refine ⟨⟨isCF_f hf, mj_isk_mk _ _⟩, ⟨wo3, isB_nI (by omega) (by omega)⟩, ?_⟩
    simp (disch := omega) only [jn_cl]
    rw [wn3, wV3]
    have s4 := up 4 A3 _ s3 (show nI (nbs (nF I f) (VF I' f) i) = _ by rw [nbs_c (F := VF I' f) (G := VF I f) (fun b => by rw [q0])]; rfl)
    generalize (mj_ui A3 76 4 (nI (nbs (nF I f) (VF I' f) i))) = A4 at s4 ⊢
    refine bX4_askRules_99 hd c f hf sk (nI i) A4 J ?_
    obtain ⟨-, -, -, -, -, w77⟩ := rd A4 s4.1
    simp (disch := omega) only [jn_in, jn_cl, gd_dec]
    rw [w77]
    have s5 := up 5 A4 _ s4 (show shV (nF I f) (VF I f) i = _ from rfl)
    generalize (mj_ui A4 76 5 (shV (nF I f) (VF I f) i)) = A5 at s5 ⊢
    refine bX4_askRules_112 hd c f hf sk (nI i) A5 J ?_
    obtain ⟨wo5, wn5, wV5, -, -, -⟩ := rd A5 s5.1
    refine ⟨⟨isCF_f hf, mj_isk_mk _ _⟩, i, rfl, ⟨wo5, by omega⟩, ?_⟩
    rw [wn5, wV5, lee_c (F := VF I' f) (G := VF I f) (fun b => by rw [q0]) (fun b => by rw [q1])]
    have fin : ∀ (A6 : Nat → Nat → Int32), (fr (fun c _ => c = 76) I' A6 ∧ ∀ a, a < 7 → A6 76 a = lettV (nF I f) (lv7 (I (c + 1))) (VF I f) (I f 9) i a) → mj_G Ω l false mX4_askRules d 0 0 Φ 0 0 133 ([some (.ref 75), some (.ref c), some (.ref f), some (.int sk), some (.int (nI i)), none], [], mk A6 J) := by
      intro A6 s6
      refine bX4_askRules_133 hd c f hf sk (nI i) A6 J ?_
      obtain ⟨wo6, wn6, wV6, -, -, -⟩ := rd A6 s6.1
      have hlet := lv7_let s6.2
      simp (disch := omega) only [jn_in, jn_cl, gd_dec]
      rw [← VF_5 (I := A6) (f := f) (b := i) (by omega), wV6, q5, hlet]
      have z2' : 0 ≤ VF I f 5 i := Int32.not_lt.mp z2
      have er := jn_of z2'
      have hkm : (VF I f 5 i).toNatClampNeg < m := by
        rw [er, jn_lt (cl_lt _) (by omega)] at z3
        exact z3
      have hRu : RuC A6 m R := RuC_fr hR (fun c k h1 h2 => by rw [s6.1 c k (by (try dsimp only); omega), hfr c k (by (try dsimp only); omega)])
      refine ⟨⟨by trivial, by trivial, mj_isk_mk _ _⟩, _, er, isK_of (by omega), m, R, ⟨hRu, hkm, lettV_b hu hn hF hi⟩, fun I53 h53 => ?_⟩
      rw [← er]
      refine bX4_askRules_153 hd c f hf sk (nI i) (R (VF I f 5 i) (lettV (nF I f) (lv7 (I (c + 1))) (VF I f) (I f 9) i)) I53 J ?_
      obtain ⟨v1, v2, v3, v4⟩ := FF_fr (I := A6) (I1 := I53) (f := f) (fun c k h1 h2 => h53 c k (by (try dsimp only); omega))
      have hfr5 : fr (fun c _ => c = f + 3 ∨ c = 76 ∨ c = 10) I I53 := fun c k w => by
        try dsimp only at w
        rw [h53 c k (by (try dsimp only); omega), s6.1 c k (by (try dsimp only); omega), hfr c k (by (try dsimp only); omega)]
      have g2 := VF_2 (I := I53) (f := f) (b := i) (by omega)
      have g3 := VF_3 (I := I53) (f := f) (b := i) (by omega)
      rw [v2, wV6, q2] at g2
      rw [v2, wV6, q3] at g3
      have nxs : ∀ v : Int32, v = asp (VF I f 2 i) (VF I f 3 i) (R (VF I f 5 i) (lettV (nF I f) (lv7 (I (c + 1))) (VF I f) (I f 9) i)) → mj_G Ω l false mX4_askRules d 0 0 Φ 0 0 3 ([some (.ref 75), some (.ref c), some (.ref f), some (.int sk), some (.int (nI (i + 1))), none], [], mk (mj_ui I53 (f + 3) i v) J) := fun v hv => nx _ v (fr_ui hfr5 (Or.inl rfl)) (by rw [VFu_2 (by omega), v2, wV6]) hv
      have nxt : asp (VF I f 2 i) (VF I f 3 i) (R (VF I f 5 i) (lettV (nF I f) (lv7 (I (c + 1))) (VF I f) (I f 9) i)) = VF I f 2 i → mj_G Ω l false mX4_askRules d 0 0 Φ 0 0 3 ([some (.ref 75), some (.ref c), some (.ref f), some (.int sk), some (.int (nI (i + 1))), none], [], mk I53 J) := fun hv => nx I53 (VF I f 2 i) hfr5 (by rw [v2, wV6, ← q2, vup_id]) hv.symm
      generalize R (VF I f 5 i) (lettV (nF I f) (lv7 (I (c + 1))) (VF I f) (I f 9) i) = w at *
      simp (disch := omega) only [jn_in, jn_cl, gd_dec, jn_succ]
      rw [← g2, ← g3]
      unfold asp at nxs nxt
      clear g2 g3 s0 s1 s2 s3 s4 s5 up nx nx0 rd hk h
      by_cases a1 : 0 < w
      · rw [if_pos a1]
        rw [if_pos a1] at nxt
        simp only [if_pos a1] at nxs
        by_cases a2 : VF I f 2 i < VF I f 3 i
        · rw [if_pos a2]; exact nxs _ (by rw [if_pos a2])
        · rw [if_neg a2]; exact nxt (by rw [if_neg a2])
      · rw [if_neg a1]
        rw [if_neg a1] at nxt
        simp only [if_neg a1] at nxs
        by_cases a2 : w < 0
        · rw [if_pos a2]
          rw [if_pos a2] at nxt
          simp only [if_pos a2] at nxs
          by_cases a3 : 0 < VF I f 2 i
          · rw [if_pos a3]; exact nxs _ (by rw [if_pos a3])
          · rw [if_neg a3]; exact nxt (by rw [if_neg a3])
        · rw [if_neg a2]
          exact nxt (by rw [if_neg a2])
    split
    · rename_i z4
      exact fin _ (up 6 A5 _ s5 (show (0 : Int32) = _ from z4.symm))
    · rename_i z4
      rw [b2i_e0] at z4
      exact fin _ (up 6 A5 _ s5 (show (1 : Int32) = _ from (b2i_1 (Classical.not_not.mp z4)).symm))
  · refine bX4_askRules_3 hd c f hf sk (nI (nF I f)) I' J ?_
    obtain ⟨e8, en⟩ := fr_n hI.2 (f := f) (by (try dsimp only); omega)
    rw [hc] at e8
    rw [e8, if_neg (by rw [jn_lt (by omega) (by omega)]; omega)]
    exact h I' hI
theorem sdX4_askRules : mj_Sd mX4_askRules 3 tX4_askRules := by
  intro Ω l d hd as M Φ h
  unfold tX4_askRules at h
  split at h
  · rename_i z_this c f sk
    obtain ⟨⟨rfl, hf, hM⟩, u, m, R, hp, h⟩ := h
    rw [mj_isk_of hM]
    exact mnX4_askRules hd c f hf sk u m R _ _ hp (by
      rw [mj_isk_of hM] at h
      exact h)
  · exact h.elim
theorem cm_if {e g : Int32} {A B : Prop} (he : 0 ≤ e.toInt) (hA : comes e g → A) (hB : ¬ comes e g → B) : (if 0 < e then mj_gd (!decide (e = 0)) (if g - g / e * e = 0 then A else B) else B) := by
  have hi := comes_i (e := e) (g := g) (A := A) (B := B) he
  by_cases q : 0 < e
  · rw [if_pos q]
    have q2 := hi.mp q
    simp only [q2, decide_false, Bool.not_false, gd_true]
    by_cases z : g - g / e * e = 0
    · rw [if_pos z]; exact hA ⟨q2, z⟩
    · rw [if_neg z]; exact hB (fun w => z w.2)
  · rw [if_neg q]; exact hB (fun w => q (hi.mpr w.1))
def csX4_moveAll : List (Nat × Nat × Nat × mj_PT) := [(43, 0, 2, mj_rcv 1 tX1_secondsLeft), (103, 0, 3, mj_rcv 4 tX4_sail), (113, 1, 2, tX4_comesNow), (117, 1, 2, tX4_driftAll), (120, 1, 1, tX4_noteEarly)]
theorem csX4_moveAll_ok : mj_Cs mX4_moveAll 3 csX4_moveAll := (mj_CsV (D' := 1) (ci := 1) (q := (RX1, TX1, 1)) sdX1_secondsLeft (Nat.le_of_ble_eq_true rfl) fX1_secondsLeft rfl rfl iX1_secondsLeft vX1_secondsLeft (by decide +kernel) l4_43 (mj_CsV (D' := 2) (ci := 4) (q := (RX4, TX4, 4)) sdX4_sail (Nat.le_of_ble_eq_true rfl) fX4_sail rfl rfl iX4_sail vX4_sail (by decide +kernel) l4_103 (mj_CsS (D' := 1) sdX4_comesNow (Nat.le_of_ble_eq_true rfl) fX4_comesNow sX4_comesNow (by decide +kernel) l4_113 (mj_CsS (D' := 2) sdX4_driftAll (Nat.le_of_ble_eq_true rfl) fX4_driftAll sX4_driftAll (by decide +kernel) l4_117 (mj_CsS (D' := 1) sdX4_noteEarly (Nat.le_of_ble_eq_true rfl) fX4_noteEarly sX4_noteEarly (by decide +kernel) l4_120 mj_Cs0)))))
def cutX4_moveAll : List (Nat × List Bool) := [(2, [true, true, true, true]), (27, [true, true, true, true]), (55, [true, true, true, true]), (79, [true, true, true, true]), (100, [true, true, true, true])]
def pX4_moveAll_0 : List (Nat × Instr × Nat) := [(0, .iconst 0, 1), (1, .istore_n 3, 1), (2, .iload_n 3, 1)]
set_option maxRecDepth 100000 in
theorem dX4_moveAll_0 : mj_pd cX4_moveAll pX4_moveAll_0 := mj_pdB (by decide +kernel)
set_option maxRecDepth 100000 in
set_option maxHeartbeats 4000000 in
theorem inX4_moveAll {Ω : mj_Om} {l : Launch} {d : Nat} {Φ : Option Value → mj_M → Prop} (hd : 3 ≤ d) (c f : Nat) (hf : isCF c f) (I : Nat → Nat → Int32) (J : Nat → Nat → Int64)
    (h : ((mj_G Ω l false mX4_moveAll d 0 0 Φ 0 0 2 ([some (.ref 75), some (.ref c), some (.ref f), some (.int (0 : Int32))], [], (mk I J))))) :
    mj_Met Ω l false mX4_moveAll d 0 0 [.ref 75, .ref c, .ref f] (mk I J) Φ := by
  rcases hf with ⟨rfl, rfl⟩ | ⟨rfl, rfl⟩ | ⟨rfl, rfl⟩ | ⟨rfl, rfl⟩ <;> exact mj_entry (by decide) rfl (fun h => (by cases h)) (Nat.le_of_ble_eq_true rfl) (mj_blk (μ := mX4_moveAll) (P := pX4_moveAll_0) (cut := cutX4_moveAll) (cs := csX4_moveAll) dX4_moveAll_0 csX4_moveAll_ok hd 4 0 _ h)
def pX4_moveAll_2 : List (Nat × Instr × Nat) := [(2, .iload_n 3, 1), (3, .aload_n 2, 1), (4, .getfield 61, 3), (7, .if_icmp .ge 20, 3), (10, .aload_n 0, 1), (11, .aload_n 2, 1), (12, .aload_n 0, 1), (13, .getfield 20, 3), (16, .iload_n 3, 1), (17, .iaload, 1), (18, .invokevirtual 103, 3), (21, .iinc 3 1, 3), (24, .goto (-22), 3), (27, .aload_n 2, 1)]
set_option maxRecDepth 100000 in
theorem dX4_moveAll_2 : mj_pd cX4_moveAll pX4_moveAll_2 := mj_pdB (by decide +kernel)
set_option maxRecDepth 100000 in
set_option maxHeartbeats 4000000 in
theorem bX4_moveAll_2 {Ω : mj_Om} {l : Launch} {d : Nat} {Φ : Option Value → mj_M → Prop} (hd : 3 ≤ d) (c f : Nat) (hf : isCF c f) (x3 : Int32) (I : Nat → Nat → Int32) (J : Nat → Nat → Int64)
    (h : ((if x3 < (I f 8) then (mj_gd (mj_inB x3 8) ((75 = 75 ∧ isF3 f ∧ mj_isk (mk I J)) ∧ (∃ b62 : Nat, (I 78 (x3).toNatClampNeg) = nI b62 ∧ ((okF I f ∧ b62 < nF I f) ∧ (∀ I63 : Nat → Nat → Int32, (VF I63 f = sailV (nF I f) (I 77) (VF I f) b62 ∧ fr (fun c _ => c = f + 2 ∨ c = f + 3) I I63) → (mj_G Ω l false mX4_moveAll d 0 0 Φ 0 0 2 ([some (.ref 75), some (.ref c), some (.ref f), some (.int (x3 + (1 : Int32)))], [], (mk I63 J)))))))) else (mj_G Ω l false mX4_moveAll d 0 0 Φ 0 0 27 ([some (.ref 75), some (.ref c), some (.ref f), some (.int x3)], [], (mk I J)))))) :
    mj_G Ω l false mX4_moveAll d 0 0 Φ 0 0 2 ([some (.ref 75), some (.ref c), some (.ref f), some (.int x3)], [], mk I J) := by
  rcases hf with ⟨rfl, rfl⟩ | ⟨rfl, rfl⟩ | ⟨rfl, rfl⟩ | ⟨rfl, rfl⟩ <;> exact mj_blk (μ := mX4_moveAll) (P := pX4_moveAll_2) (cut := cutX4_moveAll) (cs := csX4_moveAll) dX4_moveAll_2 csX4_moveAll_ok hd 15 2 _ h
def pX4_moveAll_27 : List (Nat × Instr × Nat) := [(27, .aload_n 2, 1), (28, .dup, 1), (29, .getfield 107, 3), (32, .iconst 1, 1), (33, .iadd, 1), (34, .putfield 107, 3), (37, .aload_n 1, 1), (38, .getfield 110, 3), (41, .iconst 3, 1), (42, .iaload, 1), (43, .aload_n 2, 1), (44, .getfield 107, 3), (47, .invokestatic 113, 3), (50, .ifCond .eq 29, 3), (53, .iconst 0, 1), (54, .istore_n 3, 1), (55, .iload_n 3, 1), (79, .aload_n 1, 1)]
set_option maxRecDepth 100000 in
theorem dX4_moveAll_27 : mj_pd cX4_moveAll pX4_moveAll_27 := mj_pdB (by decide +kernel)
set_option maxRecDepth 100000 in
set_option maxHeartbeats 4000000 in
theorem bX4_moveAll_27 {Ω : mj_Om} {l : Launch} {d : Nat} {Φ : Option Value → mj_M → Prop} (hd : 3 ≤ d) (c f : Nat) (hf : isCF c f) (x3 : Int32) (I : Nat → Nat → Int32) (J : Nat → Nat → Int64)
    (h : ((if (0 : Int32) < ((mj_ui I f 9 ((I f 9) + (1 : Int32))) (c + 1) 3) then (mj_gd (!decide (((mj_ui I f 9 ((I f 9) + (1 : Int32))) (c + 1) 3) = 0)) (if (((I f 9) + (1 : Int32)) - ((I f 9) + (1 : Int32)) / ((mj_ui I f 9 ((I f 9) + (1 : Int32))) (c + 1) 3) * ((mj_ui I f 9 ((I f 9) + (1 : Int32))) (c + 1) 3)) = (0 : Int32) then (mj_G Ω l false mX4_moveAll d 0 0 Φ 0 0 55 ([some (.ref 75), some (.ref c), some (.ref f), some (.int (0 : Int32))], [], (mk (mj_ui I f 9 ((I f 9) + (1 : Int32))) J))) else (mj_G Ω l false mX4_moveAll d 0 0 Φ 0 0 79 ([some (.ref 75), some (.ref c), some (.ref f), some (.int x3)], [], (mk (mj_ui I f 9 ((I f 9) + (1 : Int32))) J))))) else (mj_G Ω l false mX4_moveAll d 0 0 Φ 0 0 79 ([some (.ref 75), some (.ref c), some (.ref f), some (.int x3)], [], (mk (mj_ui I f 9 ((I f 9) + (1 : Int32))) J)))))) :
    mj_G Ω l false mX4_moveAll d 0 0 Φ 0 0 27 ([some (.ref 75), some (.ref c), some (.ref f), some (.int x3)], [], mk I J) := by
  rcases hf with ⟨rfl, rfl⟩ | ⟨rfl, rfl⟩ | ⟨rfl, rfl⟩ | ⟨rfl, rfl⟩ <;> exact mj_blk (μ := mX4_moveAll) (P := pX4_moveAll_27) (cut := cutX4_moveAll) (cs := csX4_moveAll) dX4_moveAll_27 csX4_moveAll_ok hd 19 27 _ h
def pX4_moveAll_55 : List (Nat × Instr × Nat) := [(55, .iload_n 3, 1), (56, .aload_n 2, 1), (57, .getfield 61, 3), (60, .if_icmp .ge 19, 3), (63, .aload_n 2, 1), (64, .getfield 69, 3), (67, .iload_n 3, 1), (68, .dup2, 1), (69, .iaload, 1), (70, .iconst 1, 1), (71, .isub, 1), (72, .iastore, 1), (73, .iinc 3 1, 3), (76, .goto (-21), 3), (79, .aload_n 1, 1)]
set_option maxRecDepth 100000 in
theorem dX4_moveAll_55 : mj_pd cX4_moveAll pX4_moveAll_55 := mj_pdB (by decide +kernel)
set_option maxRecDepth 100000 in
set_option maxHeartbeats 4000000 in
theorem bX4_moveAll_55 {Ω : mj_Om} {l : Launch} {d : Nat} {Φ : Option Value → mj_M → Prop} (hd : 3 ≤ d) (c f : Nat) (hf : isCF c f) (x3 : Int32) (I : Nat → Nat → Int32) (J : Nat → Nat → Int64)
    (h : ((if x3 < (I f 8) then (mj_gd (mj_inB x3 8) (mj_gd (mj_inB x3 8) (mj_G Ω l false mX4_moveAll d 0 0 Φ 0 0 55 ([some (.ref 75), some (.ref c), some (.ref f), some (.int (x3 + (1 : Int32)))], [], (mk (mj_ui I (f + 2) (x3).toNatClampNeg ((I (f + 2) (x3).toNatClampNeg) - (1 : Int32))) J))))) else (mj_G Ω l false mX4_moveAll d 0 0 Φ 0 0 79 ([some (.ref 75), some (.ref c), some (.ref f), some (.int x3)], [], (mk I J)))))) :
    mj_G Ω l false mX4_moveAll d 0 0 Φ 0 0 55 ([some (.ref 75), some (.ref c), some (.ref f), some (.int x3)], [], mk I J) := by
  rcases hf with ⟨rfl, rfl⟩ | ⟨rfl, rfl⟩ | ⟨rfl, rfl⟩ | ⟨rfl, rfl⟩ <;> exact mj_blk (μ := mX4_moveAll) (P := pX4_moveAll_55) (cut := cutX4_moveAll) (cs := csX4_moveAll) dX4_moveAll_55 csX4_moveAll_ok hd 16 55 _ h
def pX4_moveAll_79 : List (Nat × Instr × Nat) := [(79, .aload_n 1, 1), (80, .getfield 110, 3), (83, .iconst 4, 1), (84, .iaload, 1), (85, .aload_n 2, 1), (86, .getfield 107, 3), (89, .invokestatic 113, 3), (92, .ifCond .eq 8, 3), (95, .aload_n 1, 1), (96, .aload_n 2, 1), (97, .invokestatic 117, 3), (100, .aload_n 1, 1)]
set_option maxRecDepth 100000 in
theorem dX4_moveAll_79 : mj_pd cX4_moveAll pX4_moveAll_79 := mj_pdB (by decide +kernel)
set_option maxRecDepth 100000 in
set_option maxHeartbeats 4000000 in
theorem bX4_moveAll_79 {Ω : mj_Om} {l : Launch} {d : Nat} {Φ : Option Value → mj_M → Prop} (hd : 3 ≤ d) (c f : Nat) (hf : isCF c f) (x3 : Int32) (I : Nat → Nat → Int32) (J : Nat → Nat → Int64)
    (h : ((if (0 : Int32) < (I (c + 1) 4) then (mj_gd (!decide ((I (c + 1) 4) = 0)) (if ((I f 9) - (I f 9) / (I (c + 1) 4) * (I (c + 1) 4)) = (0 : Int32) then ((isCF c f ∧ mj_isk (mk I J)) ∧ ((okF I f ∧ lineOk (lv7 (I (c + 1)))) ∧ (∀ I65 : Nat → Nat → Int32, (VF I65 f = driftC (nF I f) ((I (c + 1) 0).toNatClampNeg - 1) (VF I f) ∧ fr (fun c _ => c = f + 1) I I65) → (mj_G Ω l false mX4_moveAll d 0 0 Φ 0 0 100 ([some (.ref 75), some (.ref c), some (.ref f), some (.int x3)], [], (mk I65 J)))))) else (mj_G Ω l false mX4_moveAll d 0 0 Φ 0 0 100 ([some (.ref 75), some (.ref c), some (.ref f), some (.int x3)], [], (mk I J))))) else (mj_G Ω l false mX4_moveAll d 0 0 Φ 0 0 100 ([some (.ref 75), some (.ref c), some (.ref f), some (.int x3)], [], (mk I J)))))) :
    mj_G Ω l false mX4_moveAll d 0 0 Φ 0 0 79 ([some (.ref 75), some (.ref c), some (.ref f), some (.int x3)], [], mk I J) := by
  rcases hf with ⟨rfl, rfl⟩ | ⟨rfl, rfl⟩ | ⟨rfl, rfl⟩ | ⟨rfl, rfl⟩ <;> exact mj_blk (μ := mX4_moveAll) (P := pX4_moveAll_79) (cut := cutX4_moveAll) (cs := csX4_moveAll) dX4_moveAll_79 csX4_moveAll_ok hd 13 79 _ h
def pX4_moveAll_100 : List (Nat × Instr × Nat) := [(100, .aload_n 1, 1), (101, .aload_n 2, 1), (102, .invokevirtual 43, 3), (105, .bipush 9, 2), (107, .if_icmp .gt 7, 3), (110, .aload_n 2, 1), (111, .invokestatic 120, 3), (114, .return_, 1)]
set_option maxRecDepth 100000 in
theorem dX4_moveAll_100 : mj_pd cX4_moveAll pX4_moveAll_100 := mj_pdB (by decide +kernel)
set_option maxRecDepth 100000 in
set_option maxHeartbeats 4000000 in
theorem bX4_moveAll_100 {Ω : mj_Om} {l : Launch} {d : Nat} {Φ : Option Value → mj_M → Prop} (hd : 3 ≤ d) (c f : Nat) (hf : isCF c f) (x3 : Int32) (I : Nat → Nat → Int32) (J : Nat → Nat → Int64)
    (h : ((if (9 : Int32) < ((I (c + 1) 5) - (I f 9)) then (Φ none (mk I J)) else ((isF3 f ∧ mj_isk (mk I J)) ∧ ((okF I f) ∧ (∀ I67 : Nat → Nat → Int32, (VF I67 f = earlyV (nF I f) (VF I f) ∧ fr (fun c _ => c = f + 8) I I67) → (Φ none (mk I67 J)))))))) :
    mj_G Ω l false mX4_moveAll d 0 0 Φ 0 0 100 ([some (.ref 75), some (.ref c), some (.ref f), some (.int x3)], [], mk I J) := by
  rcases hf with ⟨rfl, rfl⟩ | ⟨rfl, rfl⟩ | ⟨rfl, rfl⟩ | ⟨rfl, rfl⟩ <;> exact mj_blk (μ := mX4_moveAll) (P := pX4_moveAll_100) (cut := cutX4_moveAll) (cs := csX4_moveAll) dX4_moveAll_100 csX4_moveAll_ok hd 9 100 _ h
def tX4_moveAll : mj_PT := fun as M Φ => match as with
  | [.ref this, .ref c_, .ref f_] => ((this = 75 ∧ isCF c_ f_ ∧ mj_isk M) ∧ (∃ B : Nat → Int32, ((okF M.2.2.1 f_ ∧ lineOk (lv7 (M.2.2.1 (c_ + 1))) ∧ (∀ k, k < nF M.2.2.1 f_ → M.2.2.1 78 k = nI (ordN (nF M.2.2.1 f_) B k))) ∧ (∀ I1 : Nat → Nat → Int32, (VF I1 f_ = moveV (nF M.2.2.1 f_) (lv7 (M.2.2.1 (c_ + 1))) (M.2.2.1 77) B (VF M.2.2.1 f_) (M.2.2.1 f_ 9) ∧ I1 f_ 9 = M.2.2.1 f_ 9 + 1 ∧ fr (fun c k => (f_ + 1 ≤ c ∧ c ≤ f_ + 8) ∨ (c = f_ ∧ k = 9)) M.2.2.1 I1) → Φ none (M.1, M.2.1, I1, M.2.2.2)))))
  | _ => False
set_option maxHeartbeats 8000000 in
theorem mnX4_moveAll {Ω : mj_Om} {l : Launch} {d : Nat} {Φ : Option Value → mj_M → Prop} (hd : 3 ≤ d) (c f : Nat) (hf : isCF c f) (B : Nat → Int32) (I : Nat → Nat → Int32) (J : Nat → Nat → Int64) (hp : okF I f ∧ lineOk (lv7 (I (c + 1))) ∧ (∀ k, k < nF I f → I 78 k = nI (ordN (nF I f) B k))) (h : ∀ I1 : Nat → Nat → Int32, (VF I1 f = moveV (nF I f) (lv7 (I (c + 1))) (I 77) B (VF I f) (I f 9) ∧ I1 f 9 = I f 9 + 1 ∧ fr (fun c k => (f + 1 ≤ c ∧ c ≤ f + 8) ∨ (c = f ∧ k = 9)) I I1) → Φ none (mk I1 J)) : mj_Met Ω l false mX4_moveAll d 0 0 [.ref 75, .ref c, .ref f] (mk I J) Φ := by
  refine inX4_moveAll hd c f hf I J ?_
  obtain ⟨⟨hc, hn⟩, hl, h78⟩ := hp
  have hcf := isCF_b hf
  obtain ⟨l0, l1, l2, l3, l4, l5, l6⟩ := id hl
  have hCx : ∀ (I' : Nat → Nat → Int32) (j : Nat), fr (fun c k => (f + 1 ≤ c ∧ c ≤ f + 8) ∨ (c = f ∧ k = 9)) I I' → j < 7 → I' (c + 1) j = lv7 (I (c + 1)) j := by
    intro I' j hfr hj
    rw [hfr _ _ (by (try dsimp only); omega), lv7_at hj]
  have hok' : ∀ I' : Nat → Nat → Int32, fr (fun c k => (f + 1 ≤ c ∧ c ≤ f + 8) ∨ (c = f ∧ k = 9)) I I' → okF I' f ∧ nF I' f = nF I f ∧ I' f 8 = nI (nF I f) := by
    intro I' hfr
    obtain ⟨e8, en⟩ := fr_n hfr (f := f) (by (try dsimp only); omega)
    exact ⟨fr_okF hfr (f := f) (by (try dsimp only); omega) ⟨hc, hn⟩, en, by rw [e8]; exact hc⟩
  have k100 : ∀ (x3 : Int32) (I' : Nat → Nat → Int32), fr (fun c k => (f + 1 ≤ c ∧ c ≤ f + 8) ∨ (c = f ∧ k = 9)) I I' → I' f 9 = I f 9 + 1 → VF I' f = driftM (nF I f) (lv7 (I (c + 1))) (I f 9 + 1) (tideM (nF I f) (lv7 (I (c + 1))) (I f 9 + 1) (goN (nF I f) (I 77) B (nF I f) (VF I f))) → mj_G Ω l false mX4_moveAll d 0 0 Φ 0 0 100 ([some (.ref 75), some (.ref c), some (.ref f), some (.int x3)], [], mk I' J) := by
    intro x3 I' hfr h9 hV
    refine bX4_moveAll_100 hd c f hf x3 I' J ?_
    rw [hCx I' 5 hfr (by decide), h9]
    obtain ⟨ho, hn2, -⟩ := hok' I' hfr
    split
    · rename_i q
      exact h I' ⟨by unfold moveV earlyM; rw [cif_t q, hV], h9, hfr⟩
    · rename_i q
      refine ⟨⟨isCF_f hf, mj_isk_mk _ _⟩, ho, fun I37 h37 => h I37 ⟨by unfold moveV earlyM; rw [cif_f q, h37.1, hn2, hV], by rw [h37.2 f 9 (by (try dsimp only); omega), h9], fun a b w => ?_⟩⟩
      try dsimp only at w
      rw [h37.2 a b (by (try dsimp only); omega), hfr a b w]
  have k79 : ∀ (x3 : Int32) (I' : Nat → Nat → Int32), fr (fun c k => (f + 1 ≤ c ∧ c ≤ f + 8) ∨ (c = f ∧ k = 9)) I I' → I' f 9 = I f 9 + 1 → VF I' f = tideM (nF I f) (lv7 (I (c + 1))) (I f 9 + 1) (goN (nF I f) (I 77) B (nF I f) (VF I f)) → mj_G Ω l false mX4_moveAll d 0 0 Φ 0 0 79 ([some (.ref 75), some (.ref c), some (.ref f), some (.int x3)], [], mk I' J) := by
    intro x3 I' hfr h9 hV
    refine bX4_moveAll_79 hd c f hf x3 I' J ?_
    rw [hCx I' 4 hfr (by decide), h9]
    obtain ⟨ho, hn2, -⟩ := hok' I' hfr
    refine cm_if l4.1 (fun q => ?_) (fun q => k100 x3 I' hfr h9 (by unfold driftM; rw [cif_f q, hV]))
    have hlv : lv7 (I' (c + 1)) = lv7 (I (c + 1)) := by
      funext j
      by_cases w : j < 7
      · rw [lv7_at w]; exact hCx I' j hfr w
      · simp [lv7, w]
    refine ⟨⟨hf, mj_isk_mk _ _⟩, ⟨ho, by rw [hlv]; exact hl⟩, fun I35 h35 => k100 x3 I35 (fun a b w => ?_) (by rw [h35.2 f 9 (by (try dsimp only); omega), h9]) ?_⟩
    · try dsimp only at w
      rw [h35.2 a b (by (try dsimp only); omega), hfr a b w]
    · unfold driftM
      rw [cif_t q, h35.1, hn2, hV, hCx I' 0 hfr (by decide)]
  have k27 : ∀ (x3 : Int32) (I' : Nat → Nat → Int32), fr (fun c k => (f + 1 ≤ c ∧ c ≤ f + 8) ∨ (c = f ∧ k = 9)) I I' → I' f 9 = I f 9 → VF I' f = goN (nF I f) (I 77) B (nF I f) (VF I f) → mj_G Ω l false mX4_moveAll d 0 0 Φ 0 0 27 ([some (.ref 75), some (.ref c), some (.ref f), some (.int x3)], [], mk I' J) := by
    intro x3 I' hfr h9 hV
    refine bX4_moveAll_27 hd c f hf x3 I' J ?_
    simp only [ui_c (show ¬ c + 1 = f by omega), h9, hCx I' 3 hfr (by decide)]
    have hfr1 : fr (fun c k => (f + 1 ≤ c ∧ c ≤ f + 8) ∨ (c = f ∧ k = 9)) I (mj_ui I' f 9 (I f 9 + 1)) := fr_ui hfr (Or.inr ⟨rfl, rfl⟩)
    have hV1 : VF (mj_ui I' f 9 (I f 9 + 1)) f = goN (nF I f) (I 77) B (nF I f) (VF I f) := by rw [VF_u9]; exact hV
    have h91 : (mj_ui I' f 9 (I f 9 + 1)) f 9 = I f 9 + 1 := ui_s
    generalize mj_ui I' f 9 (I f 9 + 1) = I2 at hfr1 hV1 h91 ⊢
    refine cm_if l3.1 (fun q => ?_) (fun q => k79 x3 I2 hfr1 h91 (by unfold tideM; rw [cif_f q, hV1]))
    refine lp_inv (σ := Nat → Nat → Int32) (n := nF I f) (G := fun i I3 => mj_G Ω l false mX4_moveAll d 0 0 Φ 0 0 55 ([some (.ref 75), some (.ref c), some (.ref f), some (.int (nI i))], [], mk I3 J)) (fun i I3 => VF I3 f = tideV i (VF I2 f) ∧ fr (fun c _ => c = f + 2) I2 I3) (fun i I3 hi hI hk => ?_) (fun I3 hI => ?_) (nF I f) 0 I2 (by omega) ⟨(tideV_0 _).symm, fr_rf⟩
    · refine bX4_moveAll_55 hd c f hf (nI i) I3 J ?_
      obtain ⟨hV3, hfr3⟩ := hI
      obtain ⟨w8, wn⟩ := fr_n hfr3 (f := f) (by (try dsimp only); omega)
      obtain ⟨-, hn2, h82⟩ := hok' I2 hfr1
      rw [w8, h82, if_pos (by rw [jn_lt (by omega) (by omega)]; exact hi)]
      simp (disch := omega) only [jn_in, jn_cl, gd_dec, jn_succ]
      refine hk _ ⟨?_, fr_ui hfr3 rfl⟩
      rw [VFu_1 (by omega), ← VF_1 (I := I3) (f := f) (b := i) (by omega), hV3, tideV_s, tideV_1]
    · refine bX4_moveAll_55 hd c f hf (nI (nF I f)) I3 J ?_
      obtain ⟨hV3, hfr3⟩ := hI
      obtain ⟨w8, wn⟩ := fr_n hfr3 (f := f) (by (try dsimp only); omega)
      obtain ⟨-, hn2, h82⟩ := hok' I2 hfr1
      rw [w8, h82, if_neg (by rw [jn_lt (by omega) (by omega)]; omega)]
      refine k79 _ I3 (fun a b w => ?_) (by rw [hfr3 f 9 (by (try dsimp only); omega), h91]) (by unfold tideM; rw [cif_t q, hV3, hV1])
      try dsimp only at w
      rw [hfr3 a b (by (try dsimp only); omega), hfr1 a b w]
  refine lp_inv (σ := Nat → Nat → Int32) (n := nF I f) (G := fun i I' => mj_G Ω l false mX4_moveAll d 0 0 Φ 0 0 2 ([some (.ref 75), some (.ref c), some (.ref f), some (.int (nI i))], [], mk I' J)) (fun i I' => VF I' f = goN (nF I f) (I 77) B i (VF I f) ∧ fr (fun c _ => c = f + 2 ∨ c = f + 3) I I') (fun i I' hi hI hk => ?_) (fun I' hI => ?_) (nF I f) 0 I (by omega) ⟨rfl, fr_rf⟩
  · refine bX4_moveAll_2 hd c f hf (nI i) I' J ?_
    obtain ⟨hV, hfr⟩ := hI
    have hfrS : fr (fun c k => (f + 1 ≤ c ∧ c ≤ f + 8) ∨ (c = f ∧ k = 9)) I I' := fr_mo hfr (fun a b w => by (try dsimp only at w ⊢); omega)
    obtain ⟨ho, hn2, h82⟩ := hok' I' hfrS
    have e77 : I' 77 = I 77 := by funext b; exact hfr 77 b (by (try dsimp only); omega)
    rw [h82, if_pos (by rw [jn_lt (by omega) (by omega)]; exact hi)]
    simp (disch := omega) only [jn_in, jn_cl, gd_dec, jn_succ]
    refine ⟨⟨by trivial, isCF_f hf, mj_isk_mk _ _⟩, ordN (nF I f) B i, by rw [hfr 78 i (by (try dsimp only); omega)]; exact h78 i hi, ⟨ho, by rw [hn2]; exact (ordN_sp (B := B) hi).1⟩, fun I33 h33 => hk I33 ⟨by rw [h33.1, hn2, hV, e77]; rfl, fr_tr hfr h33.2⟩⟩
  · refine bX4_moveAll_2 hd c f hf (nI (nF I f)) I' J ?_
    obtain ⟨hV, hfr⟩ := hI
    have hfrS : fr (fun c k => (f + 1 ≤ c ∧ c ≤ f + 8) ∨ (c = f ∧ k = 9)) I I' := fr_mo hfr (fun a b w => by (try dsimp only at w ⊢); omega)
    obtain ⟨ho, hn2, h82⟩ := hok' I' hfrS
    rw [h82, if_neg (by rw [jn_lt (by omega) (by omega)]; omega)]
    exact k27 _ I' hfrS (hfr f 9 (by (try dsimp only); omega)) hV
theorem sdX4_moveAll : mj_Sd mX4_moveAll 3 tX4_moveAll := by
  intro Ω l d hd as M Φ h
  unfold tX4_moveAll at h
  split at h
  · rename_i z_this c f
    obtain ⟨⟨rfl, hf, hM⟩, B, hp, h⟩ := h
    rw [mj_isk_of hM]
    exact mnX4_moveAll hd c f hf B _ _ hp (by
      rw [mj_isk_of hM] at h
      exact h)
  · exact h.elim
