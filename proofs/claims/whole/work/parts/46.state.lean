/-! ===== fleets copied, acts kept: the class (by program, wip/whole/pv.py) ===== -/
def isFG (f g : Nat) : Prop := (f = 30 ∧ g = 15) ∨ (f = 39 ∧ g = 30) ∨ (f = 48 ∧ g = 39) ∨ (f = 57 ∧ g = 39) ∨ (f = 48 ∧ g = 57) ∨ (f = 48 ∧ g = 30) ∨ (f = 66 ∧ g = 39) ∨ (f = 39 ∧ g = 66)
theorem isFG_b {f g : Nat} (h : isFG f g) : (g + 8 < f ∨ f + 8 < g) ∧ 30 ≤ f ∧ f ≤ 66 ∧ 15 ≤ g ∧ g ≤ 66 := by unfold isFG at h; omega
theorem VF_eq {I I1 : Nat → Nat → Int32} {f g : Nat} (hn : nF I1 f = nF I g) (h : ∀ k b, k < 8 → b < nF I g → I1 (f + 1 + k) b = I (g + 1 + k) b) : VF I1 f = VF I g := by
  funext k b
  unfold VF vF
  rw [hn]
  by_cases hb : b < nF I g
  · by_cases hk : k < 8
    · simp only [hb, hk, if_true]; exact h k b hk hb
    · simp [hk]
  · simp [hb]
def csX3_copyFrom : List (Nat × Nat × Nat × mj_PT) := []
theorem csX3_copyFrom_ok : mj_Cs mX3_copyFrom 1 csX3_copyFrom := mj_Cs0
def cutX3_copyFrom : List (Nat × List Bool) := [(18, [true, true, true]), (38, [true, true, true]), (50, [true, true, true]), (62, [true, true, true]), (74, [true, true, true]), (86, [true, true, true]), (98, [true, true, true]), (110, [true, true, true]), (122, [true, true, true])]
def pX3_copyFrom_0 : List (Nat × Instr × Nat) := [(0, .aload_n 0, 1), (1, .aload_n 1, 1), (2, .getfield 36, 3), (5, .putfield 36, 3), (8, .aload_n 0, 1), (9, .aload_n 1, 1), (10, .getfield 40, 3), (13, .putfield 40, 3), (16, .iconst 0, 1), (17, .istore_n 2, 1), (18, .iload_n 2, 1)]
set_option maxRecDepth 100000 in
theorem dX3_copyFrom_0 : mj_pd cX3_copyFrom pX3_copyFrom_0 := mj_pdB (by decide +kernel)
set_option maxRecDepth 100000 in
set_option maxHeartbeats 4000000 in
theorem inX3_copyFrom {Ω : mj_Om} {l : Launch} {d : Nat} {Φ : Option Value → mj_M → Prop} (hd : 1 ≤ d) (f g : Nat) (hf : isFG f g) (I : Nat → Nat → Int32) (J : Nat → Nat → Int64)
    (h : ((mj_G Ω l false mX3_copyFrom d 0 0 Φ 0 0 18 ([some (.ref f), some (.ref g), some (.int (0 : Int32))], [], (mk (mj_ui (mj_ui I f 8 (I g 8)) f 9 ((mj_ui I f 8 (I g 8)) g 9)) J))))) :
    mj_Met Ω l false mX3_copyFrom d 0 0 [.ref f, .ref g] (mk I J) Φ := by
  rcases hf with ⟨rfl, rfl⟩ | ⟨rfl, rfl⟩ | ⟨rfl, rfl⟩ | ⟨rfl, rfl⟩ | ⟨rfl, rfl⟩ | ⟨rfl, rfl⟩ | ⟨rfl, rfl⟩ | ⟨rfl, rfl⟩ <;> exact mj_entry (by decide) rfl (fun h => (by cases h)) (Nat.le_of_ble_eq_true rfl) (mj_blk (μ := mX3_copyFrom) (P := pX3_copyFrom_0) (cut := cutX3_copyFrom) (cs := csX3_copyFrom) dX3_copyFrom_0 csX3_copyFrom_ok hd 12 0 _ h)
def pX3_copyFrom_18 : List (Nat × Instr × Nat) := [(18, .iload_n 2, 1), (19, .aload_n 0, 1), (20, .getfield 36, 3), (23, .if_icmp .ge 105, 3), (26, .aload_n 0, 1), (27, .getfield 9, 3), (30, .iload_n 2, 1), (31, .aload_n 1, 1), (32, .getfield 9, 3), (35, .iload_n 2, 1), (36, .iaload, 1), (37, .iastore, 1), (38, .aload_n 0, 1), (128, .return_, 1)]
set_option maxRecDepth 100000 in
theorem dX3_copyFrom_18 : mj_pd cX3_copyFrom pX3_copyFrom_18 := mj_pdB (by decide +kernel)
set_option maxRecDepth 100000 in
set_option maxHeartbeats 4000000 in
theorem bX3_copyFrom_18 {Ω : mj_Om} {l : Launch} {d : Nat} {Φ : Option Value → mj_M → Prop} (hd : 1 ≤ d) (f g : Nat) (hf : isFG f g) (x2 : Int32) (I : Nat → Nat → Int32) (J : Nat → Nat → Int64)
    (h : ((if x2 < (I f 8) then (mj_gd (mj_inB x2 8) (mj_gd (mj_inB x2 8) (mj_G Ω l false mX3_copyFrom d 0 0 Φ 0 0 38 ([some (.ref f), some (.ref g), some (.int x2)], [], (mk (mj_ui I (f + 1) (x2).toNatClampNeg (I (g + 1) (x2).toNatClampNeg)) J))))) else (Φ none (mk I J))))) :
    mj_G Ω l false mX3_copyFrom d 0 0 Φ 0 0 18 ([some (.ref f), some (.ref g), some (.int x2)], [], mk I J) := by
  rcases hf with ⟨rfl, rfl⟩ | ⟨rfl, rfl⟩ | ⟨rfl, rfl⟩ | ⟨rfl, rfl⟩ | ⟨rfl, rfl⟩ | ⟨rfl, rfl⟩ | ⟨rfl, rfl⟩ | ⟨rfl, rfl⟩ <;> exact mj_blk (μ := mX3_copyFrom) (P := pX3_copyFrom_18) (cut := cutX3_copyFrom) (cs := csX3_copyFrom) dX3_copyFrom_18 csX3_copyFrom_ok hd 15 18 _ h
def pX3_copyFrom_38 : List (Nat × Instr × Nat) := [(38, .aload_n 0, 1), (39, .getfield 15, 3), (42, .iload_n 2, 1), (43, .aload_n 1, 1), (44, .getfield 15, 3), (47, .iload_n 2, 1), (48, .iaload, 1), (49, .iastore, 1), (50, .aload_n 0, 1)]
set_option maxRecDepth 100000 in
theorem dX3_copyFrom_38 : mj_pd cX3_copyFrom pX3_copyFrom_38 := mj_pdB (by decide +kernel)
set_option maxRecDepth 100000 in
set_option maxHeartbeats 4000000 in
theorem bX3_copyFrom_38 {Ω : mj_Om} {l : Launch} {d : Nat} {Φ : Option Value → mj_M → Prop} (hd : 1 ≤ d) (f g : Nat) (hf : isFG f g) (x2 : Int32) (I : Nat → Nat → Int32) (J : Nat → Nat → Int64)
    (h : ((mj_gd (mj_inB x2 8) (mj_gd (mj_inB x2 8) (mj_G Ω l false mX3_copyFrom d 0 0 Φ 0 0 50 ([some (.ref f), some (.ref g), some (.int x2)], [], (mk (mj_ui I (f + 2) (x2).toNatClampNeg (I (g + 2) (x2).toNatClampNeg)) J))))))) :
    mj_G Ω l false mX3_copyFrom d 0 0 Φ 0 0 38 ([some (.ref f), some (.ref g), some (.int x2)], [], mk I J) := by
  rcases hf with ⟨rfl, rfl⟩ | ⟨rfl, rfl⟩ | ⟨rfl, rfl⟩ | ⟨rfl, rfl⟩ | ⟨rfl, rfl⟩ | ⟨rfl, rfl⟩ | ⟨rfl, rfl⟩ | ⟨rfl, rfl⟩ <;> exact mj_blk (μ := mX3_copyFrom) (P := pX3_copyFrom_38) (cut := cutX3_copyFrom) (cs := csX3_copyFrom) dX3_copyFrom_38 csX3_copyFrom_ok hd 10 38 _ h
def pX3_copyFrom_50 : List (Nat × Instr × Nat) := [(50, .aload_n 0, 1), (51, .getfield 18, 3), (54, .iload_n 2, 1), (55, .aload_n 1, 1), (56, .getfield 18, 3), (59, .iload_n 2, 1), (60, .iaload, 1), (61, .iastore, 1), (62, .aload_n 0, 1)]
set_option maxRecDepth 100000 in
theorem dX3_copyFrom_50 : mj_pd cX3_copyFrom pX3_copyFrom_50 := mj_pdB (by decide +kernel)
set_option maxRecDepth 100000 in
set_option maxHeartbeats 4000000 in
theorem bX3_copyFrom_50 {Ω : mj_Om} {l : Launch} {d : Nat} {Φ : Option Value → mj_M → Prop} (hd : 1 ≤ d) (f g : Nat) (hf : isFG f g) (x2 : Int32) (I : Nat → Nat → Int32) (J : Nat → Nat → Int64)
    (h : ((mj_gd (mj_inB x2 8) (mj_gd (mj_inB x2 8) (mj_G Ω l false mX3_copyFrom d 0 0 Φ 0 0 62 ([some (.ref f), some (.ref g), some (.int x2)], [], (mk (mj_ui I (f + 3) (x2).toNatClampNeg (I (g + 3) (x2).toNatClampNeg)) J))))))) :
    mj_G Ω l false mX3_copyFrom d 0 0 Φ 0 0 50 ([some (.ref f), some (.ref g), some (.int x2)], [], mk I J) := by
  rcases hf with ⟨rfl, rfl⟩ | ⟨rfl, rfl⟩ | ⟨rfl, rfl⟩ | ⟨rfl, rfl⟩ | ⟨rfl, rfl⟩ | ⟨rfl, rfl⟩ | ⟨rfl, rfl⟩ | ⟨rfl, rfl⟩ <;> exact mj_blk (μ := mX3_copyFrom) (P := pX3_copyFrom_50) (cut := cutX3_copyFrom) (cs := csX3_copyFrom) dX3_copyFrom_50 csX3_copyFrom_ok hd 10 50 _ h
def pX3_copyFrom_62 : List (Nat × Instr × Nat) := [(62, .aload_n 0, 1), (63, .getfield 21, 3), (66, .iload_n 2, 1), (67, .aload_n 1, 1), (68, .getfield 21, 3), (71, .iload_n 2, 1), (72, .iaload, 1), (73, .iastore, 1), (74, .aload_n 0, 1)]
set_option maxRecDepth 100000 in
theorem dX3_copyFrom_62 : mj_pd cX3_copyFrom pX3_copyFrom_62 := mj_pdB (by decide +kernel)
set_option maxRecDepth 100000 in
set_option maxHeartbeats 4000000 in
theorem bX3_copyFrom_62 {Ω : mj_Om} {l : Launch} {d : Nat} {Φ : Option Value → mj_M → Prop} (hd : 1 ≤ d) (f g : Nat) (hf : isFG f g) (x2 : Int32) (I : Nat → Nat → Int32) (J : Nat → Nat → Int64)
    (h : ((mj_gd (mj_inB x2 8) (mj_gd (mj_inB x2 8) (mj_G Ω l false mX3_copyFrom d 0 0 Φ 0 0 74 ([some (.ref f), some (.ref g), some (.int x2)], [], (mk (mj_ui I (f + 4) (x2).toNatClampNeg (I (g + 4) (x2).toNatClampNeg)) J))))))) :
    mj_G Ω l false mX3_copyFrom d 0 0 Φ 0 0 62 ([some (.ref f), some (.ref g), some (.int x2)], [], mk I J) := by
  rcases hf with ⟨rfl, rfl⟩ | ⟨rfl, rfl⟩ | ⟨rfl, rfl⟩ | ⟨rfl, rfl⟩ | ⟨rfl, rfl⟩ | ⟨rfl, rfl⟩ | ⟨rfl, rfl⟩ | ⟨rfl, rfl⟩ <;> exact mj_blk (μ := mX3_copyFrom) (P := pX3_copyFrom_62) (cut := cutX3_copyFrom) (cs := csX3_copyFrom) dX3_copyFrom_62 csX3_copyFrom_ok hd 10 62 _ h
def pX3_copyFrom_74 : List (Nat × Instr × Nat) := [(74, .aload_n 0, 1), (75, .getfield 24, 3), (78, .iload_n 2, 1), (79, .aload_n 1, 1), (80, .getfield 24, 3), (83, .iload_n 2, 1), (84, .iaload, 1), (85, .iastore, 1), (86, .aload_n 0, 1)]
set_option maxRecDepth 100000 in
theorem dX3_copyFrom_74 : mj_pd cX3_copyFrom pX3_copyFrom_74 := mj_pdB (by decide +kernel)
set_option maxRecDepth 100000 in
set_option maxHeartbeats 4000000 in
theorem bX3_copyFrom_74 {Ω : mj_Om} {l : Launch} {d : Nat} {Φ : Option Value → mj_M → Prop} (hd : 1 ≤ d) (f g : Nat) (hf : isFG f g) (x2 : Int32) (I : Nat → Nat → Int32) (J : Nat → Nat → Int64)
    (h : ((mj_gd (mj_inB x2 8) (mj_gd (mj_inB x2 8) (mj_G Ω l false mX3_copyFrom d 0 0 Φ 0 0 86 ([some (.ref f), some (.ref g), some (.int x2)], [], (mk (mj_ui I (f + 5) (x2).toNatClampNeg (I (g + 5) (x2).toNatClampNeg)) J))))))) :
    mj_G Ω l false mX3_copyFrom d 0 0 Φ 0 0 74 ([some (.ref f), some (.ref g), some (.int x2)], [], mk I J) := by
  rcases hf with ⟨rfl, rfl⟩ | ⟨rfl, rfl⟩ | ⟨rfl, rfl⟩ | ⟨rfl, rfl⟩ | ⟨rfl, rfl⟩ | ⟨rfl, rfl⟩ | ⟨rfl, rfl⟩ | ⟨rfl, rfl⟩ <;> exact mj_blk (μ := mX3_copyFrom) (P := pX3_copyFrom_74) (cut := cutX3_copyFrom) (cs := csX3_copyFrom) dX3_copyFrom_74 csX3_copyFrom_ok hd 10 74 _ h
def pX3_copyFrom_86 : List (Nat × Instr × Nat) := [(86, .aload_n 0, 1), (87, .getfield 27, 3), (90, .iload_n 2, 1), (91, .aload_n 1, 1), (92, .getfield 27, 3), (95, .iload_n 2, 1), (96, .iaload, 1), (97, .iastore, 1), (98, .aload_n 0, 1)]
set_option maxRecDepth 100000 in
theorem dX3_copyFrom_86 : mj_pd cX3_copyFrom pX3_copyFrom_86 := mj_pdB (by decide +kernel)
set_option maxRecDepth 100000 in
set_option maxHeartbeats 4000000 in
theorem bX3_copyFrom_86 {Ω : mj_Om} {l : Launch} {d : Nat} {Φ : Option Value → mj_M → Prop} (hd : 1 ≤ d) (f g : Nat) (hf : isFG f g) (x2 : Int32) (I : Nat → Nat → Int32) (J : Nat → Nat → Int64)
    (h : ((mj_gd (mj_inB x2 8) (mj_gd (mj_inB x2 8) (mj_G Ω l false mX3_copyFrom d 0 0 Φ 0 0 98 ([some (.ref f), some (.ref g), some (.int x2)], [], (mk (mj_ui I (f + 6) (x2).toNatClampNeg (I (g + 6) (x2).toNatClampNeg)) J))))))) :
    mj_G Ω l false mX3_copyFrom d 0 0 Φ 0 0 86 ([some (.ref f), some (.ref g), some (.int x2)], [], mk I J) := by
  rcases hf with ⟨rfl, rfl⟩ | ⟨rfl, rfl⟩ | ⟨rfl, rfl⟩ | ⟨rfl, rfl⟩ | ⟨rfl, rfl⟩ | ⟨rfl, rfl⟩ | ⟨rfl, rfl⟩ | ⟨rfl, rfl⟩ <;> exact mj_blk (μ := mX3_copyFrom) (P := pX3_copyFrom_86) (cut := cutX3_copyFrom) (cs := csX3_copyFrom) dX3_copyFrom_86 csX3_copyFrom_ok hd 10 86 _ h
def pX3_copyFrom_98 : List (Nat × Instr × Nat) := [(98, .aload_n 0, 1), (99, .getfield 30, 3), (102, .iload_n 2, 1), (103, .aload_n 1, 1), (104, .getfield 30, 3), (107, .iload_n 2, 1), (108, .iaload, 1), (109, .iastore, 1), (110, .aload_n 0, 1)]
set_option maxRecDepth 100000 in
theorem dX3_copyFrom_98 : mj_pd cX3_copyFrom pX3_copyFrom_98 := mj_pdB (by decide +kernel)
set_option maxRecDepth 100000 in
set_option maxHeartbeats 4000000 in
theorem bX3_copyFrom_98 {Ω : mj_Om} {l : Launch} {d : Nat} {Φ : Option Value → mj_M → Prop} (hd : 1 ≤ d) (f g : Nat) (hf : isFG f g) (x2 : Int32) (I : Nat → Nat → Int32) (J : Nat → Nat → Int64)
    (h : ((mj_gd (mj_inB x2 8) (mj_gd (mj_inB x2 8) (mj_G Ω l false mX3_copyFrom d 0 0 Φ 0 0 110 ([some (.ref f), some (.ref g), some (.int x2)], [], (mk (mj_ui I (f + 7) (x2).toNatClampNeg (I (g + 7) (x2).toNatClampNeg)) J))))))) :
    mj_G Ω l false mX3_copyFrom d 0 0 Φ 0 0 98 ([some (.ref f), some (.ref g), some (.int x2)], [], mk I J) := by
  rcases hf with ⟨rfl, rfl⟩ | ⟨rfl, rfl⟩ | ⟨rfl, rfl⟩ | ⟨rfl, rfl⟩ | ⟨rfl, rfl⟩ | ⟨rfl, rfl⟩ | ⟨rfl, rfl⟩ | ⟨rfl, rfl⟩ <;> exact mj_blk (μ := mX3_copyFrom) (P := pX3_copyFrom_98) (cut := cutX3_copyFrom) (cs := csX3_copyFrom) dX3_copyFrom_98 csX3_copyFrom_ok hd 10 98 _ h
def pX3_copyFrom_110 : List (Nat × Instr × Nat) := [(110, .aload_n 0, 1), (111, .getfield 33, 3), (114, .iload_n 2, 1), (115, .aload_n 1, 1), (116, .getfield 33, 3), (119, .iload_n 2, 1), (120, .iaload, 1), (121, .iastore, 1), (122, .iinc 2 1, 3)]
set_option maxRecDepth 100000 in
theorem dX3_copyFrom_110 : mj_pd cX3_copyFrom pX3_copyFrom_110 := mj_pdB (by decide +kernel)
set_option maxRecDepth 100000 in
set_option maxHeartbeats 4000000 in
theorem bX3_copyFrom_110 {Ω : mj_Om} {l : Launch} {d : Nat} {Φ : Option Value → mj_M → Prop} (hd : 1 ≤ d) (f g : Nat) (hf : isFG f g) (x2 : Int32) (I : Nat → Nat → Int32) (J : Nat → Nat → Int64)
    (h : ((mj_gd (mj_inB x2 8) (mj_gd (mj_inB x2 8) (mj_G Ω l false mX3_copyFrom d 0 0 Φ 0 0 122 ([some (.ref f), some (.ref g), some (.int x2)], [], (mk (mj_ui I (f + 8) (x2).toNatClampNeg (I (g + 8) (x2).toNatClampNeg)) J))))))) :
    mj_G Ω l false mX3_copyFrom d 0 0 Φ 0 0 110 ([some (.ref f), some (.ref g), some (.int x2)], [], mk I J) := by
  rcases hf with ⟨rfl, rfl⟩ | ⟨rfl, rfl⟩ | ⟨rfl, rfl⟩ | ⟨rfl, rfl⟩ | ⟨rfl, rfl⟩ | ⟨rfl, rfl⟩ | ⟨rfl, rfl⟩ | ⟨rfl, rfl⟩ <;> exact mj_blk (μ := mX3_copyFrom) (P := pX3_copyFrom_110) (cut := cutX3_copyFrom) (cs := csX3_copyFrom) dX3_copyFrom_110 csX3_copyFrom_ok hd 10 110 _ h
def pX3_copyFrom_122 : List (Nat × Instr × Nat) := [(18, .iload_n 2, 1), (122, .iinc 2 1, 3), (125, .goto (-107), 3)]
set_option maxRecDepth 100000 in
theorem dX3_copyFrom_122 : mj_pd cX3_copyFrom pX3_copyFrom_122 := mj_pdB (by decide +kernel)
set_option maxRecDepth 100000 in
set_option maxHeartbeats 4000000 in
theorem bX3_copyFrom_122 {Ω : mj_Om} {l : Launch} {d : Nat} {Φ : Option Value → mj_M → Prop} (hd : 1 ≤ d) (f g : Nat) (hf : isFG f g) (x2 : Int32) (I : Nat → Nat → Int32) (J : Nat → Nat → Int64)
    (h : ((mj_G Ω l false mX3_copyFrom d 0 0 Φ 0 0 18 ([some (.ref f), some (.ref g), some (.int (x2 + (1 : Int32)))], [], (mk I J))))) :
    mj_G Ω l false mX3_copyFrom d 0 0 Φ 0 0 122 ([some (.ref f), some (.ref g), some (.int x2)], [], mk I J) := by
  rcases hf with ⟨rfl, rfl⟩ | ⟨rfl, rfl⟩ | ⟨rfl, rfl⟩ | ⟨rfl, rfl⟩ | ⟨rfl, rfl⟩ | ⟨rfl, rfl⟩ | ⟨rfl, rfl⟩ | ⟨rfl, rfl⟩ <;> exact mj_blk (μ := mX3_copyFrom) (P := pX3_copyFrom_122) (cut := cutX3_copyFrom) (cs := csX3_copyFrom) dX3_copyFrom_122 csX3_copyFrom_ok hd 4 122 _ h
def tX3_copyFrom : mj_PT := fun as M Φ => match as with
  | [.ref this, .ref g_] => ((isFG this g_ ∧ mj_isk M) ∧ ((okF M.2.2.1 g_) ∧ (∀ I1 : Nat → Nat → Int32, (okF I1 this ∧ nF I1 this = nF M.2.2.1 g_ ∧ VF I1 this = VF M.2.2.1 g_ ∧ I1 this 9 = M.2.2.1 g_ 9 ∧ fr (fun c _ => this ≤ c ∧ c ≤ this + 8) M.2.2.1 I1) → Φ none (M.1, M.2.1, I1, M.2.2.2))))
  | _ => False
set_option maxHeartbeats 8000000 in
theorem mnX3_copyFrom {Ω : mj_Om} {l : Launch} {d : Nat} {Φ : Option Value → mj_M → Prop} (hd : 1 ≤ d) (f g : Nat) (hf : isFG f g) (I : Nat → Nat → Int32) (J : Nat → Nat → Int64) (hp : okF I g) (h : ∀ I1 : Nat → Nat → Int32, (okF I1 f ∧ nF I1 f = nF I g ∧ VF I1 f = VF I g ∧ I1 f 9 = I g 9 ∧ fr (fun c _ => f ≤ c ∧ c ≤ f + 8) I I1) → Φ none (mk I1 J)) : mj_Met Ω l false mX3_copyFrom d 0 0 [.ref f, .ref g] (mk I J) Φ := by
  refine inX3_copyFrom hd f g hf I J ?_
  obtain ⟨hc, hn⟩ := hp
  have hfg := isFG_b hf
  have hr8 : (mj_ui I f 8 (I g 8)) g 9 = I g 9 := ui_c (by omega)
  simp only [hr8]
  have hA0 : fr (fun c k => c = f ∧ (k = 8 ∨ k = 9)) I (mj_ui (mj_ui I f 8 (I g 8)) f 9 (I g 9)) := fr_ui (fr_ui fr_rf ⟨rfl, Or.inl rfl⟩) ⟨rfl, Or.inr rfl⟩
  have h80 : (mj_ui (mj_ui I f 8 (I g 8)) f 9 (I g 9)) f 8 = nI (nF I g) := by rw [ui_k (by decide), ui_s]; exact hc
  have h90 : (mj_ui (mj_ui I f 8 (I g 8)) f 9 (I g 9)) f 9 = I g 9 := ui_s
  generalize mj_ui (mj_ui I f 8 (I g 8)) f 9 (I g 9) = A0 at hA0 h80 h90 ⊢
  have fin : ∀ A : Nat → Nat → Int32, fr (fun c _ => f + 1 ≤ c ∧ c ≤ f + 8) A0 A → (∀ b k, k < 8 → b < nF I g → A (f + 1 + k) b = I (g + 1 + k) b) → Φ none (mk A J) := by
    intro A hA h1
    have e8 : A f 8 = nI (nF I g) := by rw [hA f 8 (by (try dsimp only); omega)]; exact h80
    have en : nF A f = nF I g := by unfold nF; rw [e8, jn_cl (by omega)]; rfl
    refine h A ⟨⟨by rw [en]; exact e8, by rw [en]; exact hn⟩, en, VF_eq en (fun k b hk hb => h1 b k hk hb), by rw [hA f 9 (by (try dsimp only); omega)]; exact h90, fun a k w => ?_⟩
    try dsimp only at w
    rw [hA a k (by (try dsimp only); omega), hA0 a k (by (try dsimp only); omega)]
  have src : ∀ A : Nat → Nat → Int32, fr (fun c _ => f + 1 ≤ c ∧ c ≤ f + 8) A0 A → ∀ k b, k < 8 → A (g + 1 + k) b = I (g + 1 + k) b := by
    intro A hA k b hk
    rw [hA _ _ (by (try dsimp only); omega), hA0 _ _ (by (try dsimp only); omega)]
  refine lp_inv (σ := Nat → Nat → Int32) (n := nF I g) (G := fun i A => mj_G Ω l false mX3_copyFrom d 0 0 Φ 0 0 18 ([some (.ref f), some (.ref g), some (.int (nI i))], [], mk A J)) (fun i A => fr (fun c _ => f + 1 ≤ c ∧ c ≤ f + 8) A0 A ∧ (∀ b k, k < 8 → b < i → A (f + 1 + k) b = I (g + 1 + k) b)) (fun i A hi hI hk => ?_) (fun A hI => ?_) (nF I g) 0 A0 (by omega) ⟨fr_rf, fun b k _ hb => absurd hb (Nat.not_lt_zero b)⟩
  · obtain ⟨hA, hall⟩ := hI
    have up : ∀ (k : Nat) (A : Nat → Nat → Int32), k < 8 → (fr (fun c _ => f + 1 ≤ c ∧ c ≤ f + 8) A0 A ∧ (∀ b j, j < 8 → b < i → A (f + 1 + j) b = I (g + 1 + j) b) ∧ (∀ j, j < k → A (f + 1 + j) i = I (g + 1 + j) i)) → (fr (fun c _ => f + 1 ≤ c ∧ c ≤ f + 8) A0 (mj_ui A (f + 1 + k) i (A (g + 1 + k) i)) ∧ (∀ b j, j < 8 → b < i → (mj_ui A (f + 1 + k) i (A (g + 1 + k) i)) (f + 1 + j) b = I (g + 1 + j) b) ∧ (∀ j, j < k + 1 → (mj_ui A (f + 1 + k) i (A (g + 1 + k) i)) (f + 1 + j) i = I (g + 1 + j) i)) := by
      intro k A hk8 h0
      refine ⟨fr_ui h0.1 (by (try dsimp only); omega), fun b j hj hb => ?_, fun j hj => ?_⟩
      · rw [ui_k (by omega)]; exact h0.2.1 b j hj hb
      · by_cases y : j = k
        · rw [y, ui_s, src A h0.1 k i hk8]
        · rw [ui_c (by omega)]; exact h0.2.2 j (by omega)
    refine bX3_copyFrom_18 hd f g hf (nI i) A J ?_
    rw [hA f 8 (by (try dsimp only); omega), h80, if_pos (by rw [jn_lt (by omega) (by omega)]; exact hi)]
    simp (disch := omega) only [jn_in, jn_cl, gd_dec]
    have s0 := up 0 A (by decide) ⟨hA, fun b j hj hb => hall b j hj hb, fun j hj => absurd hj (Nat.not_lt_zero j)⟩
    generalize hB0e : mj_ui A (f + 1 + 0) i (A (g + 1 + 0) i) = B0 at s0
    try rw [show mj_ui A (f + 1) i (A (g + 1) i) = B0 from hB0e]
    refine bX3_copyFrom_38 hd f g hf (nI i) B0 J ?_
    simp (disch := omega) only [jn_in, jn_cl, gd_dec]
    have s1 := up 1 B0 (by decide) s0
    generalize hB1 : mj_ui B0 (f + 1 + 1) i (B0 (g + 1 + 1) i) = B1 at s1
    try rw [show mj_ui B0 (f + 2) i (B0 (g + 2) i) = B1 from hB1]
    refine bX3_copyFrom_50 hd f g hf (nI i) B1 J ?_
    simp (disch := omega) only [jn_in, jn_cl, gd_dec]
    have s2 := up 2 B1 (by decide) s1
    generalize hB2 : mj_ui B1 (f + 1 + 2) i (B1 (g + 1 + 2) i) = B2 at s2
    try rw [show mj_ui B1 (f + 3) i (B1 (g + 3) i) = B2 from hB2]
    refine bX3_copyFrom_62 hd f g hf (nI i) B2 J ?_
    simp (disch := omega) only [jn_in, jn_cl, gd_dec]
    have s3 := up 3 B2 (by decide) s2
    generalize hB3 : mj_ui B2 (f + 1 + 3) i (B2 (g + 1 + 3) i) = B3 at s3
    try rw [show mj_ui B2 (f + 4) i (B2 (g + 4) i) = B3 from hB3]
    refine bX3_copyFrom_74 hd f g hf (nI i) B3 J ?_
    simp (disch := omega) only [jn_in, jn_cl, gd_dec]
    have s4 := up 4 B3 (by decide) s3
    generalize hB4 : mj_ui B3 (f + 1 + 4) i (B3 (g + 1 + 4) i) = B4 at s4
    try rw [show mj_ui B3 (f + 5) i (B3 (g + 5) i) = B4 from hB4]
    refine bX3_copyFrom_86 hd f g hf (nI i) B4 J ?_
    simp (disch := omega) only [jn_in, jn_cl, gd_dec]
    have s5 := up 5 B4 (by decide) s4
    generalize hB5 : mj_ui B4 (f + 1 + 5) i (B4 (g + 1 + 5) i) = B5 at s5
    try rw [show mj_ui B4 (f + 6) i (B4 (g + 6) i) = B5 from hB5]
    refine bX3_copyFrom_98 hd f g hf (nI i) B5 J ?_
    simp (disch := omega) only [jn_in, jn_cl, gd_dec]
    have s6 := up 6 B5 (by decide) s5
    generalize hB6 : mj_ui B5 (f + 1 + 6) i (B5 (g + 1 + 6) i) = B6 at s6
    try rw [show mj_ui B5 (f + 7) i (B5 (g + 7) i) = B6 from hB6]
    refine bX3_copyFrom_110 hd f g hf (nI i) B6 J ?_
    simp (disch := omega) only [jn_in, jn_cl, gd_dec]
    have s7 := up 7 B6 (by decide) s6
    generalize hB7 : mj_ui B6 (f + 1 + 7) i (B6 (g + 1 + 7) i) = B7 at s7
    try rw [show mj_ui B6 (f + 8) i (B6 (g + 8) i) = B7 from hB7]
    refine bX3_copyFrom_122 hd f g hf (nI i) B7 J ?_
    rw [jn_succ]
    refine hk B7 ⟨s7.1, fun b k hk8 hb => ?_⟩
    by_cases y : b = i
    · rw [y]; exact s7.2.2 k hk8
    · exact s7.2.1 b k hk8 (by omega)
  · refine bX3_copyFrom_18 hd f g hf (nI (nF I g)) A J ?_
    rw [hI.1 f 8 (by (try dsimp only); omega), h80, if_neg (by rw [jn_lt (by omega) (by omega)]; omega)]
    exact fin A hI.1 hI.2
theorem sdX3_copyFrom : mj_Sd mX3_copyFrom 1 tX3_copyFrom := by
  intro Ω l d hd as M Φ h
  unfold tX3_copyFrom at h
  split at h
  · rename_i f g
    obtain ⟨⟨hf, hM⟩, hp, h⟩ := h
    rw [mj_isk_of hM]
    exact mnX3_copyFrom hd f g hf _ _ hp (by
      rw [mj_isk_of hM] at h
      exact h)
  · exact h.elim
