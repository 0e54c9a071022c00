/-! ===== the reference's readWater (by program, wip/whole/p89.py) ===== -/
/-- which items -/
def itA (q : Nat) (a f m : Int32) (w : Nat) : Prop := (q = 102 ∧ a = 108 ∧ f = 0 ∧ m = 7 ∧ w = 0) ∨ (q = 103 ∧ ¬ a = 108 ∧ f = nI w ∧ m = 6 ∧ w + 6 ≤ 48)
def itN (q : Nat) : Nat := if q = 102 then 7 else 6
noncomputable def itQ (q t : Nat) (τ : Nat → Int32) (p : Nat) : IR := if q = 102 then itLP t τ p else itBP t τ p
def tX12_items : mj_PT := fun as M Φ => match as with
  | [.ref this, .int a, .ref q, .int f, .int m] => ((this = 91 ∧ mj_isk M) ∧ (∃ t : Nat, (∃ τ : Nat → Int32, (∃ p : Nat, (∃ w : Nat, ((itA q a f m w ∧ TM M.2.2.1 t τ ∧ M.2.2.1 91 3 = nI p ∧ p ≤ t ∧ M.2.2.1 91 4 = -1) ∧ (∀ I1 : Nat → Nat → Int32, (wrT q w (itN q) (itQ q t τ p) I1 ∧ fr (tFr q w (itN q)) M.2.2.1 I1) → Φ none (M.1, M.2.1, I1, M.2.2.2))))))))
  | _ => False
theorem sdX12_items : mj_Sd mX12_items 4 tX12_items := by
  intro Ω l d hd as M Φ h
  unfold tX12_items at h
  split at h
  · obtain ⟨⟨rfl, hM⟩, t, τ, p, w, ⟨hA, hT, h3, hp, h4⟩, h⟩ := h
    rcases hA with ⟨rfl, ha, hf, hm, rfl⟩ | ⟨rfl, ha, hf, hm, hw⟩
    · exact sdX12_itemsL Ω l d hd _ M Φ ⟨⟨rfl, rfl, hM⟩, t, τ, p, 0, ⟨ha, hf, by decide, hm, hT, h3, hp, h4⟩, h⟩
    · exact sdX12_itemsB Ω l d hd _ M Φ ⟨⟨rfl, rfl, hM⟩, t, τ, p, w, ⟨ha, hf, hw, hm, hT, h3, hp, h4⟩, h⟩
  · exact h.elim
def fitM (I : Nat → Nat → Int32) (i : Nat) : Prop := ¬ I 103 (6 * i + 3) < I 103 (6 * i + 2) ∧ I 103 (6 * i) < I 102 0 ∧ ∀ o, o < i → ¬ (I 103 (6 * o) = I 103 (6 * i) ∧ I 103 (6 * o + 1) = I 103 (6 * i + 1))
theorem al_s {P : Nat → Prop} {i : Nat} (h : ∀ j, j < i → P j) (hi : P i) : ∀ j, j < i + 1 → P j := fun j hj => by
  by_cases z : j = i
  · rw [z]; exact hi
  · exact h j (by omega)
def csX12_isWhole : List (Nat × Nat × Nat × mj_PT) := []
theorem csX12_isWhole_ok : mj_Cs mX12_isWhole 1 csX12_isWhole := mj_Cs0
def cutX12_isWhole : List (Nat × List Bool) := [(19, [true, true, true, true, false]), (85, [true, true, true, true, true])]
def pX12_isWhole_0 : List (Nat × Instr × Nat) := [(0, .iload_n 1, 1), (1, .ifCond .eq 14, 3), (4, .aload_n 0, 1), (5, .getfield 238, 3), (8, .ifCond .le 7, 3), (11, .iconst 1, 1), (12, .goto 4, 3), (15, .iconst 0, 1), (16, .istore_n 2, 1), (17, .iconst 0, 1), (18, .istore_n 3, 1), (19, .iload_n 3, 1)]
set_option maxRecDepth 100000 in
theorem dX12_isWhole_0 : mj_pd cX12_isWhole pX12_isWhole_0 := mj_pdB (by decide +kernel)
set_option maxRecDepth 100000 in
set_option maxHeartbeats 4000000 in
theorem inX12_isWhole {Ω : mj_Om} {l : Launch} {d : Nat} {Φ : Option Value → mj_M → Prop} (hd : 1 ≤ d) (b : Int32) (I : Nat → Nat → Int32) (J : Nat → Nat → Int64)
    (h : ((if b = (0 : Int32) then (mj_G Ω l false mX12_isWhole d 0 0 Φ 0 0 19 ([some (.ref 91), some (.int b), some (.int (0 : Int32)), some (.int (0 : Int32)), none], [], (mk I J))) else (if (0 : Int32) < (I 91 19) then (mj_G Ω l false mX12_isWhole d 0 0 Φ 0 0 19 ([some (.ref 91), some (.int b), some (.int (1 : Int32)), some (.int (0 : Int32)), none], [], (mk I J))) else (mj_G Ω l false mX12_isWhole d 0 0 Φ 0 0 19 ([some (.ref 91), some (.int b), some (.int (0 : Int32)), some (.int (0 : Int32)), none], [], (mk I J))))))) :
    mj_Met Ω l false mX12_isWhole d 0 0 [.ref 91, .int b] (mk I J) Φ := mj_entry (by decide) rfl (fun h => (by cases h)) (Nat.le_of_ble_eq_true rfl) (mj_blk (μ := mX12_isWhole) (P := pX12_isWhole_0) (cut := cutX12_isWhole) (cs := csX12_isWhole) dX12_isWhole_0 csX12_isWhole_ok hd 13 0 _ h)
def pX12_isWhole_19 : List (Nat × Instr × Nat) := [(19, .iload_n 3, 1), (20, .aload_n 0, 1), (21, .getfield 238, 3), (24, .if_icmp .ge 141, 3), (27, .iload_n 2, 1), (28, .ifCond .eq 52, 3), (31, .aload_n 0, 1), (32, .getfield 43, 3), (35, .bipush 6, 2), (37, .iload_n 3, 1), (38, .imul, 1), (39, .iconst 2, 1), (40, .iadd, 1), (41, .iaload, 1), (42, .aload_n 0, 1), (43, .getfield 43, 3), (46, .bipush 6, 2), (48, .iload_n 3, 1), (49, .imul, 1), (50, .iconst 3, 1), (51, .iadd, 1), (52, .iaload, 1), (53, .if_icmp .gt 27, 3), (56, .aload_n 0, 1), (57, .getfield 43, 3), (60, .bipush 6, 2), (62, .iload_n 3, 1), (63, .imul, 1), (64, .iconst 0, 1), (65, .iadd, 1), (66, .iaload, 1), (67, .aload_n 0, 1), (68, .getfield 40, 3), (71, .iconst 0, 1), (72, .iaload, 1), (73, .if_icmp .ge 7, 3), (76, .iconst 1, 1), (77, .goto 4, 3), (80, .iconst 0, 1), (81, .istore_n 2, 1), (82, .iconst 0, 1), (83, .istore 4, 2), (85, .iload 4, 2), (165, .iload_n 2, 1), (166, .ireturn, 1)]
set_option maxRecDepth 100000 in
theorem dX12_isWhole_19 : mj_pd cX12_isWhole pX12_isWhole_19 := mj_pdB (by decide +kernel)
set_option maxRecDepth 100000 in
set_option maxHeartbeats 4000000 in
theorem bX12_isWhole_19 {Ω : mj_Om} {l : Launch} {d : Nat} {Φ : Option Value → mj_M → Prop} (hd : 1 ≤ d) (x1 : Int32) (x2 : Int32) (x3 : Int32) (I : Nat → Nat → Int32) (J : Nat → Nat → Int64)
    (h : ((if x3 < (I 91 19) then (if x2 = (0 : Int32) then (mj_G Ω l false mX12_isWhole d 0 0 Φ 0 0 85 ([some (.ref 91), some (.int x1), some (.int (0 : Int32)), some (.int x3), some (.int (0 : Int32))], [], (mk I J))) else (mj_gd (mj_inB (((6 : Int32) * x3) + (2 : Int32)) 48) (mj_gd (mj_inB (((6 : Int32) * x3) + (3 : Int32)) 48) (if (I 103 ((((6 : Int32) * x3) + (3 : Int32))).toNatClampNeg) < (I 103 ((((6 : Int32) * x3) + (2 : Int32))).toNatClampNeg) then (mj_G Ω l false mX12_isWhole d 0 0 Φ 0 0 85 ([some (.ref 91), some (.int x1), some (.int (0 : Int32)), some (.int x3), some (.int (0 : Int32))], [], (mk I J))) else (mj_gd (mj_inB (((6 : Int32) * x3) + (0 : Int32)) 48) (if (I 103 ((((6 : Int32) * x3) + (0 : Int32))).toNatClampNeg) < (I 102 0) then (mj_G Ω l false mX12_isWhole d 0 0 Φ 0 0 85 ([some (.ref 91), some (.int x1), some (.int (1 : Int32)), some (.int x3), some (.int (0 : Int32))], [], (mk I J))) else (mj_G Ω l false mX12_isWhole d 0 0 Φ 0 0 85 ([some (.ref 91), some (.int x1), some (.int (0 : Int32)), some (.int x3), some (.int (0 : Int32))], [], (mk I J))))))))) else (mj_gd (decide (x2 = 0) || decide (x2 = 1)) (Φ (some (.int x2)) (mk I J)))))) :
    mj_G Ω l false mX12_isWhole d 0 0 Φ 0 0 19 ([some (.ref 91), some (.int x1), some (.int x2), some (.int x3), none], [], mk I J) := mj_blk (μ := mX12_isWhole) (P := pX12_isWhole_19) (cut := cutX12_isWhole) (cs := csX12_isWhole) dX12_isWhole_19 csX12_isWhole_ok hd 46 19 _ h
def pX12_isWhole_85 : List (Nat × Instr × Nat) := [(19, .iload_n 3, 1), (85, .iload 4, 2), (87, .iload_n 3, 1), (88, .if_icmp .ge 71, 3), (91, .iload_n 2, 1), (92, .ifCond .eq 59, 3), (95, .aload_n 0, 1), (96, .getfield 43, 3), (99, .bipush 6, 2), (101, .iload 4, 2), (103, .imul, 1), (104, .iconst 0, 1), (105, .iadd, 1), (106, .iaload, 1), (107, .aload_n 0, 1), (108, .getfield 43, 3), (111, .bipush 6, 2), (113, .iload_n 3, 1), (114, .imul, 1), (115, .iconst 0, 1), (116, .iadd, 1), (117, .iaload, 1), (118, .if_icmp .ne 29, 3), (121, .aload_n 0, 1), (122, .getfield 43, 3), (125, .bipush 6, 2), (127, .iload 4, 2), (129, .imul, 1), (130, .iconst 1, 1), (131, .iadd, 1), (132, .iaload, 1), (133, .aload_n 0, 1), (134, .getfield 43, 3), (137, .bipush 6, 2), (139, .iload_n 3, 1), (140, .imul, 1), (141, .iconst 1, 1), (142, .iadd, 1), (143, .iaload, 1), (144, .if_icmp .eq 7, 3), (147, .iconst 1, 1), (148, .goto 4, 3), (151, .iconst 0, 1), (152, .istore_n 2, 1), (153, .iinc 4 1, 3), (156, .goto (-71), 3), (159, .iinc 3 1, 3), (162, .goto (-143), 3)]
set_option maxRecDepth 100000 in
theorem dX12_isWhole_85 : mj_pd cX12_isWhole pX12_isWhole_85 := mj_pdB (by decide +kernel)
set_option maxRecDepth 100000 in
set_option maxHeartbeats 4000000 in
theorem bX12_isWhole_85 {Ω : mj_Om} {l : Launch} {d : Nat} {Φ : Option Value → mj_M → Prop} (hd : 1 ≤ d) (x1 : Int32) (x2 : Int32) (x3 : Int32) (x4 : Int32) (I : Nat → Nat → Int32) (J : Nat → Nat → Int64)
    (h : ((if x4 < x3 then (if x2 = (0 : Int32) then (mj_G Ω l false mX12_isWhole d 0 0 Φ 0 0 85 ([some (.ref 91), some (.int x1), some (.int (0 : Int32)), some (.int x3), some (.int (x4 + (1 : Int32)))], [], (mk I J))) else (mj_gd (mj_inB (((6 : Int32) * x4) + (0 : Int32)) 48) (mj_gd (mj_inB (((6 : Int32) * x3) + (0 : Int32)) 48) (if (I 103 ((((6 : Int32) * x4) + (0 : Int32))).toNatClampNeg) = (I 103 ((((6 : Int32) * x3) + (0 : Int32))).toNatClampNeg) then (mj_gd (mj_inB (((6 : Int32) * x4) + (1 : Int32)) 48) (mj_gd (mj_inB (((6 : Int32) * x3) + (1 : Int32)) 48) (if (I 103 ((((6 : Int32) * x4) + (1 : Int32))).toNatClampNeg) = (I 103 ((((6 : Int32) * x3) + (1 : Int32))).toNatClampNeg) then (mj_G Ω l false mX12_isWhole d 0 0 Φ 0 0 85 ([some (.ref 91), some (.int x1), some (.int (0 : Int32)), some (.int x3), some (.int (x4 + (1 : Int32)))], [], (mk I J))) else (mj_G Ω l false mX12_isWhole d 0 0 Φ 0 0 85 ([some (.ref 91), some (.int x1), some (.int (1 : Int32)), some (.int x3), some (.int (x4 + (1 : Int32)))], [], (mk I J)))))) else (mj_G Ω l false mX12_isWhole d 0 0 Φ 0 0 85 ([some (.ref 91), some (.int x1), some (.int (1 : Int32)), some (.int x3), some (.int (x4 + (1 : Int32)))], [], (mk I J))))))) else (mj_G Ω l false mX12_isWhole d 0 0 Φ 0 0 19 ([some (.ref 91), some (.int x1), some (.int x2), some (.int (x3 + (1 : Int32))), none], [], (mk I J)))))) :
    mj_G Ω l false mX12_isWhole d 0 0 Φ 0 0 85 ([some (.ref 91), some (.int x1), some (.int x2), some (.int x3), some (.int x4)], [], mk I J) := mj_blk (μ := mX12_isWhole) (P := pX12_isWhole_85) (cut := cutX12_isWhole) (cs := csX12_isWhole) dX12_isWhole_85 csX12_isWhole_ok hd 49 85 _ h
def tX12_isWhole : mj_PT := fun as M Φ => match as with
  | [.ref this, .int b] => ((this = 91 ∧ mj_isk M) ∧ (∃ n : Nat, ((M.2.2.1 91 19 = nI n ∧ n ≤ 8) ∧ Φ (some (.int (b2i (¬ b = 0 ∧ 0 < n ∧ ∀ i, i < n → fitM M.2.2.1 i)))) M)))
  | _ => False
set_option maxHeartbeats 8000000 in
theorem mnX12_isWhole {Ω : mj_Om} {l : Launch} {d : Nat} {Φ : Option Value → mj_M → Prop} (hd : 1 ≤ d) (b : Int32) (n : Nat) (I : Nat → Nat → Int32) (J : Nat → Nat → Int64) (hp : I 91 19 = nI n ∧ n ≤ 8) (h : Φ (some (.int (b2i (¬ b = 0 ∧ 0 < n ∧ ∀ i, i < n → fitM I i)))) (mk I J)) : mj_Met Ω l false mX12_isWhole d 0 0 [.ref 91, .int b] (mk I J) Φ := by
  refine inX12_isWhole hd b I J ?_
  obtain ⟨h19, hn⟩ := hp
  have key : ∀ (x2 : Int32) (bs : Prop), x2 = b2i bs → bs = (¬ b = 0 ∧ 0 < n) → mj_G Ω l false mX12_isWhole d 0 0 Φ 0 0 19 ([some (.ref 91), some (.int b), some (.int x2), some (.int 0), none], [], mk I J) := by
    intro x2 bs hx2 hbs
    subst hx2
    refine lp_inv (σ := Int32) (n := n) (G := fun i x => mj_G Ω l false mX12_isWhole d 0 0 Φ 0 0 19 ([some (.ref 91), some (.int b), some (.int x), some (.int (nI i)), none], [], mk I J)) (fun i x => x = b2i (bs ∧ ∀ j, j < i → fitM I j)) (fun i x hi hI hk => ?_) (fun x hI => ?_) n 0 (b2i bs) (by omega) (b2i_c ⟨fun q => ⟨q, fun j hj => absurd hj (Nat.not_lt_zero j)⟩, fun q => q.1⟩)
    · refine bX12_isWhole_19 hd b x (nI i) I J ?_
      rw [h19, if_pos (nlt (a := i) (b := n) hi (by omega))]
      have inner : ∀ (y : Int32) (Q : Prop), y = b2i Q → (Q ↔ (bs ∧ (∀ j, j < i → fitM I j)) ∧ ¬ I 103 (6 * i + 3) < I 103 (6 * i + 2) ∧ I 103 (6 * i) < I 102 0) → mj_G Ω l false mX12_isWhole d 0 0 Φ 0 0 85 ([some (.ref 91), some (.int b), some (.int y), some (.int (nI i)), some (.int 0)], [], mk I J) := by
        intro y Q hy hQ
        refine lp_inv (σ := Int32) (n := i) (G := fun o x => mj_G Ω l false mX12_isWhole d 0 0 Φ 0 0 85 ([some (.ref 91), some (.int b), some (.int x), some (.int (nI i)), some (.int (nI o))], [], mk I J)) (fun o x => x = b2i (Q ∧ ∀ o', o' < o → ¬ (I 103 (6 * o') = I 103 (6 * i) ∧ I 103 (6 * o' + 1) = I 103 (6 * i + 1)))) (fun o x ho hO hk' => ?_) (fun x hO => ?_) i 0 y (by omega) (hy.trans (b2i_c ⟨fun q => ⟨q, fun j hj => absurd hj (Nat.not_lt_zero j)⟩, fun q => q.1⟩))
        · refine bX12_isWhole_85 hd b x (nI i) (nI o) I J ?_
          rw [if_pos (nlt (a := o) (b := i) ho (by omega)), hO]
          simp (disch := omega) only [jn_in, jn_cl, gd_dec, jn_succ, n6_0, n6_1]
          by_cases q : Q ∧ ∀ o', o' < o → ¬ (I 103 (6 * o') = I 103 (6 * i) ∧ I 103 (6 * o' + 1) = I 103 (6 * i + 1))
          case neg =>
            rw [if_pos (by rw [b2i_e0]; exact q)]
            exact hk' 0 (b2i_0 (fun w => q ⟨w.1, fun o' ho' => w.2 o' (by omega)⟩)).symm
          rw [if_neg (by rw [b2i_e0]; exact fun u => u q)]
          by_cases w1 : I 103 (6 * o) = I 103 (6 * i)
          · rw [if_pos w1]
            by_cases w2 : I 103 (6 * o + 1) = I 103 (6 * i + 1)
            · rw [if_pos w2]; exact hk' 0 (b2i_0 (fun w => w.2 o (by omega) ⟨w1, w2⟩)).symm
            · rw [if_neg w2]; exact hk' 1 (b2i_1 ⟨q.1, al_s q.2 (fun w => w2 w.2)⟩).symm
          · rw [if_neg w1]; exact hk' 1 (b2i_1 ⟨q.1, al_s q.2 (fun w => w1 w.1)⟩).symm
        · refine bX12_isWhole_85 hd b x (nI i) (nI i) I J ?_
          rw [if_neg Int32.lt_irrefl, jn_succ]
          refine hk x (hO.trans (b2i_c ⟨fun q => ?_, fun q => ?_⟩))
          · obtain ⟨⟨r1, r2⟩, r3, r4⟩ := hQ.mp q.1
            exact ⟨r1, al_s r2 ⟨r3, r4, q.2⟩⟩
          · have := q.2 i (by omega)
            exact ⟨hQ.mpr ⟨⟨q.1, fun j hj => q.2 j (by omega)⟩, this.1, this.2.1⟩, this.2.2⟩
      rw [hI]
      simp (disch := omega) only [jn_in, jn_cl, gd_dec, n6_0, n6_2, n6_3]
      by_cases q : bs ∧ ∀ j, j < i → fitM I j
      case neg =>
        rw [if_pos (by rw [b2i_e0]; exact q)]
        exact inner 0 False (b2i_0 (fun w => w)).symm ⟨fun w => w.elim, fun w => q w.1⟩
      rw [if_neg (by rw [b2i_e0]; exact fun u => u q)]
      by_cases w1 : I 103 (6 * i + 3) < I 103 (6 * i + 2)
      · rw [if_pos w1]; exact inner 0 False (b2i_0 (fun w => w)).symm ⟨fun w => w.elim, fun w => w.2.1 w1⟩
      rw [if_neg w1]
      by_cases w2 : I 103 (6 * i) < I 102 0
      · rw [if_pos w2]; exact inner 1 True (b2i_1 trivial).symm ⟨fun _ => ⟨q, w1, w2⟩, fun _ => trivial⟩
      · rw [if_neg w2]; exact inner 0 False (b2i_0 (fun w => w)).symm ⟨fun w => w.elim, fun w => w2 w.2.2⟩
    · refine bX12_isWhole_19 hd b x (nI n) I J ?_
      rw [h19, if_neg Int32.lt_irrefl, hI]
      refine b2i_gd ?_
      rw [hbs, b2i_c (show ((¬ b = 0 ∧ 0 < n) ∧ ∀ j, j < n → fitM I j) ↔ (¬ b = 0 ∧ 0 < n ∧ ∀ j, j < n → fitM I j) from ⟨fun q => ⟨q.1.1, q.1.2, q.2⟩, fun q => ⟨⟨q.1, q.2.1⟩, q.2.2⟩⟩)]
      exact h
  rw [h19]
  by_cases q : b = 0
  · rw [if_pos q]; exact key 0 _ (b2i_0 (p := ¬ b = 0 ∧ 0 < n) (fun w => w.1 q)).symm rfl
  rw [if_neg q]
  by_cases q2 : 0 < n
  · rw [if_pos (show (0 : Int32) < nI n from nlt (a := 0) q2 (by omega))]; exact key 1 _ (b2i_1 (p := ¬ b = 0 ∧ 0 < n) ⟨q, q2⟩).symm rfl
  · rw [if_neg (show ¬ (0 : Int32) < nI n from nnl (a := 0) (by omega) (by omega))]; exact key 0 _ (b2i_0 (p := ¬ b = 0 ∧ 0 < n) (fun w => q2 w.2)).symm rfl
theorem sdX12_isWhole : mj_Sd mX12_isWhole 1 tX12_isWhole := by
  intro Ω l d hd as M Φ h
  unfold tX12_isWhole at h
  split at h
  · rename_i z_this b
    obtain ⟨⟨rfl, hM⟩, n, hp, h⟩ := h
    rw [mj_isk_of hM]
    exact mnX12_isWhole hd b n _ _ hp (by
      rw [mj_isk_of hM] at h
      exact h)
  · exact h.elim
/-- the reference's reader holds this water -/
def wsM (I : Nat → Nat → Int32) (s : WS) : Prop := (s.1 = true → ∀ j, j < 7 → I 102 j = s.2.1 j) ∧ I 91 19 = nI s.2.2.1 ∧ ∀ i, i < s.2.2.1 → ∀ k, k < 6 → I 103 (6 * i + k) = s.2.2.2 i k
def rwF (c k : Nat) : Prop := (c = 91 ∧ (k = 3 ∨ k = 4 ∨ k = 19)) ∨ c = 102 ∨ c = 103
theorem wsM_fr {I I1 : Nat → Nat → Int32} {s : WS} (h : wsM I s) (e : fr mFr I I1) : wsM I1 s := ⟨fun q j hj => by rw [e 102 j (by unfold mFr; omega)]; exact h.1 q j hj, by rw [e 91 19 (by unfold mFr; omega)]; exact h.2.1, fun i hi k hk => by rw [e 103 _ (by unfold mFr; omega)]; exact h.2.2 i hi k hk⟩
theorem whole_fitM {I : Nat → Nat → Int32} {s : WS} (h : wsM I s) : (¬ bI s.1 = 0 ∧ 0 < s.2.2.1 ∧ ∀ i, i < s.2.2.1 → fitM I i) ↔ whole s := by
  obtain ⟨h1, h2, h3⟩ := h
  have c : ∀ i, i < s.2.2.1 → I 103 (6 * i) = s.2.2.2 i 0 ∧ I 103 (6 * i + 1) = s.2.2.2 i 1 ∧ I 103 (6 * i + 2) = s.2.2.2 i 2 ∧ I 103 (6 * i + 3) = s.2.2.2 i 3 := fun i hi => ⟨h3 i hi 0 (by decide), h3 i hi 1 (by decide), h3 i hi 2 (by decide), h3 i hi 3 (by decide)⟩
  have hb : (¬ bI s.1 = 0) ↔ s.1 = true := by
    cases s.1 with
    | true => exact ⟨fun _ => rfl, fun _ => by decide⟩
    | false => exact ⟨fun w => absurd rfl w, fun w => by cases w⟩
  constructor
  · rintro ⟨w1, w2, w3⟩
    have b := hb.mp w1
    have c0 : I 102 0 = s.2.1 0 := h1 b 0 (by decide)
    refine ⟨b, w2, fun i hi => ?_⟩
    obtain ⟨e0, e1, e2, e3⟩ := c i hi
    obtain ⟨f1, f3, f4⟩ := w3 i hi
    rw [e3, e2] at f1
    rw [e0, c0] at f3
    refine ⟨f1, f3, fun o ho => ?_⟩
    obtain ⟨d0, d1, -, -⟩ := c o (by omega)
    rw [← d0, ← d1, ← e0, ← e1]
    exact f4 o ho
  · rintro ⟨b, w2, w⟩
    have c0 : I 102 0 = s.2.1 0 := h1 b 0 (by decide)
    refine ⟨hb.mpr b, w2, fun i hi => ?_⟩
    obtain ⟨e0, e1, e2, e3⟩ := c i hi
    obtain ⟨f1, f3, f4⟩ := w i hi
    refine ⟨by rw [e3, e2]; exact f1, by rw [e0, c0]; exact f3, fun o ho => ?_⟩
    obtain ⟨d0, d1, -, -⟩ := c o (by omega)
    rw [d0, d1, e0, e1]
    exact f4 o ho
def csX12_readWater : List (Nat × Nat × Nat × mj_PT) := [(125, 0, 1, mj_rcv 12 tX12_badS), (128, 0, 1, mj_rcv 12 tX12_look), (241, 0, 5, mj_rcv 12 tX12_items), (245, 0, 2, mj_rcv 12 tX12_isWhole)]
theorem csX12_readWater_ok : mj_Cs mX12_readWater 5 csX12_readWater := (mj_CsV (D' := 1) (ci := 12) (q := (RX12, TX12, 45)) sdX12_badS (Nat.le_of_ble_eq_true rfl) fX12_bad rfl rfl iX12_bad vX12_bad (by decide +kernel) l12_125 (mj_CsV (D' := 2) (ci := 12) (q := (RX12, TX12, 45)) sdX12_look (Nat.le_of_ble_eq_true rfl) fX12_look rfl rfl iX12_look vX12_look (by decide +kernel) l12_128 (mj_CsV (D' := 4) (ci := 12) (q := (RX12, TX12, 45)) sdX12_items (Nat.le_of_ble_eq_true rfl) fX12_items rfl rfl iX12_items vX12_items (by decide +kernel) l12_241 (mj_CsV (D' := 1) (ci := 12) (q := (RX12, TX12, 45)) sdX12_isWhole (Nat.le_of_ble_eq_true rfl) fX12_isWhole rfl rfl iX12_isWhole vX12_isWhole (by decide +kernel) l12_245 mj_Cs0))))
def cutX12_readWater : List (Nat × List Bool) := [(19, [true, true, true, false]), (73, [true, true, true, true]), (133, [true, true, true, true]), (177, [true, true, true, false])]
def pX12_readWater_0 : List (Nat × Instr × Nat) := [(0, .aload_n 0, 1), (1, .iconst 0, 1), (2, .putfield 109, 3), (5, .aload_n 0, 1), (6, .iconst (-1), 1), (7, .putfield 116, 3), (10, .aload_n 0, 1), (11, .iconst 0, 1), (12, .putfield 238, 3), (15, .iconst 0, 1), (16, .istore_n 1, 1), (17, .iconst 1, 1), (18, .istore_n 2, 1), (19, .iload_n 2, 1)]
set_option maxRecDepth 100000 in
theorem dX12_readWater_0 : mj_pd cX12_readWater pX12_readWater_0 := mj_pdB (by decide +kernel)
set_option maxRecDepth 100000 in
set_option maxHeartbeats 4000000 in
theorem inX12_readWater {Ω : mj_Om} {l : Launch} {d : Nat} {Φ : Option Value → mj_M → Prop} (hd : 5 ≤ d) (I : Nat → Nat → Int32) (J : Nat → Nat → Int64)
    (h : ((mj_G Ω l false mX12_readWater d 0 0 Φ 0 0 19 ([some (.ref 91), some (.int (0 : Int32)), some (.int (1 : Int32)), none], [], (mk (mj_ui (mj_ui (mj_ui I 91 3 (0 : Int32)) 91 4 (-1 : Int32)) 91 19 (0 : Int32)) J))))) :
    mj_Met Ω l false mX12_readWater d 0 0 [.ref 91] (mk I J) Φ := mj_entry (by decide) rfl (fun h => (by cases h)) (Nat.le_of_ble_eq_true rfl) (mj_blk (μ := mX12_readWater) (P := pX12_readWater_0) (cut := cutX12_readWater) (cs := csX12_readWater) dX12_readWater_0 csX12_readWater_ok hd 15 0 _ h)
def pX12_readWater_19 : List (Nat × Instr × Nat) := [(19, .iload_n 2, 1), (20, .ifCond .eq 157, 3), (23, .aload_n 0, 1), (24, .getfield 116, 3), (27, .iconst (-1), 1), (28, .if_icmp .ne 149, 3), (31, .aload_n 0, 1), (32, .invokevirtual 128, 3), (35, .istore_n 3, 1), (36, .iload_n 3, 1), (37, .bipush 108, 2), (39, .if_icmp .ne 34, 3), (42, .iload_n 1, 1), (43, .ifCond .ne 30, 3), (46, .iconst 1, 1), (47, .istore_n 1, 1), (48, .aload_n 0, 1), (49, .dup, 1), (50, .getfield 109, 3), (53, .iconst 1, 1), (54, .iadd, 1), (55, .putfield 109, 3), (58, .aload_n 0, 1), (59, .iload_n 3, 1), (60, .aload_n 0, 1), (61, .getfield 40, 3), (64, .iconst 0, 1), (65, .bipush 7, 2), (67, .invokevirtual 241, 3), (70, .goto 63, 3), (73, .iload_n 3, 1), (133, .aload_n 0, 1), (177, .aload_n 0, 1)]
set_option maxRecDepth 100000 in
theorem dX12_readWater_19 : mj_pd cX12_readWater pX12_readWater_19 := mj_pdB (by decide +kernel)
set_option maxRecDepth 100000 in
set_option maxHeartbeats 4000000 in
theorem bX12_readWater_19 {Ω : mj_Om} {l : Launch} {d : Nat} {Φ : Option Value → mj_M → Prop} (hd : 5 ≤ d) (x1 : Int32) (x2 : Int32) (I : Nat → Nat → Int32) (J : Nat → Nat → Int64)
    (h : ((if x2 = (0 : Int32) then (mj_G Ω l false mX12_readWater d 0 0 Φ 0 0 177 ([some (.ref 91), some (.int x1), some (.int x2), none], [], (mk I J))) else (if (I 91 4) = (-1 : Int32) then ((91 = 91 ∧ mj_isk (mk I J)) ∧ (∃ t2997 : Nat, (∃ τ2998 : Nat → Int32, (∃ p2999 : Nat, ((TM I t2997 τ2998 ∧ I 91 3 = nI p2999 ∧ p2999 ≤ 300) ∧ (∀ I3000 : Nat → Nat → Int32, (I3000 91 3 = nI (skp t2997 τ2998 p2999) ∧ fr mFr I I3000) → (if (nsg t2997 τ2998 p2999) = (108 : Int32) then (if x1 = (0 : Int32) then ((91 = 91 ∧ mj_isk (mk (mj_ui I3000 91 3 ((I3000 91 3) + (1 : Int32))) J)) ∧ (∃ t3002 : Nat, (∃ τ3003 : Nat → Int32, (∃ p3004 : Nat, (∃ w3005 : Nat, ((itA 102 (nsg t2997 τ2998 p2999) (0 : Int32) (7 : Int32) w3005 ∧ TM (mj_ui I3000 91 3 ((I3000 91 3) + (1 : Int32))) t3002 τ3003 ∧ (mj_ui I3000 91 3 ((I3000 91 3) + (1 : Int32))) 91 3 = nI p3004 ∧ p3004 ≤ t3002 ∧ (mj_ui I3000 91 3 ((I3000 91 3) + (1 : Int32))) 91 4 = -1) ∧ (∀ I3006 : Nat → Nat → Int32, (wrT 102 w3005 (itN 102) (itQ 102 t3002 τ3003 p3004) I3006 ∧ fr (tFr 102 w3005 (itN 102)) (mj_ui I3000 91 3 ((I3000 91 3) + (1 : Int32))) I3006) → (mj_G Ω l false mX12_readWater d 0 0 Φ 0 0 133 ([some (.ref 91), some (.int (1 : Int32)), some (.int x2), some (.int (nsg t2997 τ2998 p2999))], [], (mk I3006 J)))))))))) else (mj_G Ω l false mX12_readWater d 0 0 Φ 0 0 73 ([some (.ref 91), some (.int x1), some (.int x2), some (.int (nsg t2997 τ2998 p2999))], [], (mk I3000 J)))) else (mj_G Ω l false mX12_readWater d 0 0 Φ 0 0 73 ([some (.ref 91), some (.int x1), some (.int x2), some (.int (nsg t2997 τ2998 p2999))], [], (mk I3000 J)))))))))) else (mj_G Ω l false mX12_readWater d 0 0 Φ 0 0 177 ([some (.ref 91), some (.int x1), some (.int x2), none], [], (mk I J))))))) :
    mj_G Ω l false mX12_readWater d 0 0 Φ 0 0 19 ([some (.ref 91), some (.int x1), some (.int x2), none], [], mk I J) := mj_blk (μ := mX12_readWater) (P := pX12_readWater_19) (cut := cutX12_readWater) (cs := csX12_readWater) dX12_readWater_19 csX12_readWater_ok hd 34 19 _ h
def pX12_readWater_73 : List (Nat × Instr × Nat) := [(73, .iload_n 3, 1), (74, .bipush 98, 2), (76, .if_icmp .ne 53, 3), (79, .aload_n 0, 1), (80, .getfield 238, 3), (83, .bipush 8, 2), (85, .if_icmp .ge 44, 3), (88, .aload_n 0, 1), (89, .dup, 1), (90, .getfield 109, 3), (93, .iconst 1, 1), (94, .iadd, 1), (95, .putfield 109, 3), (98, .aload_n 0, 1), (99, .iload_n 3, 1), (100, .aload_n 0, 1), (101, .getfield 43, 3), (104, .bipush 6, 2), (106, .aload_n 0, 1), (107, .getfield 238, 3), (110, .imul, 1), (111, .bipush 6, 2), (113, .invokevirtual 241, 3), (116, .aload_n 0, 1), (117, .dup, 1), (118, .getfield 238, 3), (121, .iconst 1, 1), (122, .iadd, 1), (123, .putfield 238, 3), (126, .goto 7, 3), (129, .aload_n 0, 1), (130, .invokevirtual 125, 3), (133, .aload_n 0, 1)]
set_option maxRecDepth 100000 in
theorem dX12_readWater_73 : mj_pd cX12_readWater pX12_readWater_73 := mj_pdB (by decide +kernel)
set_option maxRecDepth 100000 in
set_option maxHeartbeats 4000000 in
theorem bX12_readWater_73 {Ω : mj_Om} {l : Launch} {d : Nat} {Φ : Option Value → mj_M → Prop} (hd : 5 ≤ d) (x1 : Int32) (x2 : Int32) (x3 : Int32) (I : Nat → Nat → Int32) (J : Nat → Nat → Int64)
    (h : ((if x3 = (98 : Int32) then (if (I 91 19) < (8 : Int32) then ((91 = 91 ∧ mj_isk (mk (mj_ui I 91 3 ((I 91 3) + (1 : Int32))) J)) ∧ (∃ t3007 : Nat, (∃ τ3008 : Nat → Int32, (∃ p3009 : Nat, (∃ w3010 : Nat, ((itA 103 x3 ((6 : Int32) * (I 91 19)) (6 : Int32) w3010 ∧ TM (mj_ui I 91 3 ((I 91 3) + (1 : Int32))) t3007 τ3008 ∧ (mj_ui I 91 3 ((I 91 3) + (1 : Int32))) 91 3 = nI p3009 ∧ p3009 ≤ t3007 ∧ (mj_ui I 91 3 ((I 91 3) + (1 : Int32))) 91 4 = -1) ∧ (∀ I3011 : Nat → Nat → Int32, (wrT 103 w3010 (itN 103) (itQ 103 t3007 τ3008 p3009) I3011 ∧ fr (tFr 103 w3010 (itN 103)) (mj_ui I 91 3 ((I 91 3) + (1 : Int32))) I3011) → (mj_G Ω l false mX12_readWater d 0 0 Φ 0 0 133 ([some (.ref 91), some (.int x1), some (.int x2), some (.int x3)], [], (mk (mj_ui I3011 91 19 ((I3011 91 19) + (1 : Int32))) J)))))))))) else ((91 = 91 ∧ mj_isk (mk I J)) ∧ (∀ I3012 : Nat → Nat → Int32, (I3012 = mj_ui I 91 4 (bdV I)) → (mj_G Ω l false mX12_readWater d 0 0 Φ 0 0 133 ([some (.ref 91), some (.int x1), some (.int x2), some (.int x3)], [], (mk I3012 J)))))) else ((91 = 91 ∧ mj_isk (mk I J)) ∧ (∀ I3014 : Nat → Nat → Int32, (I3014 = mj_ui I 91 4 (bdV I)) → (mj_G Ω l false mX12_readWater d 0 0 Φ 0 0 133 ([some (.ref 91), some (.int x1), some (.int x2), some (.int x3)], [], (mk I3014 J)))))))) :
    mj_G Ω l false mX12_readWater d 0 0 Φ 0 0 73 ([some (.ref 91), some (.int x1), some (.int x2), some (.int x3)], [], mk I J) := mj_blk (μ := mX12_readWater) (P := pX12_readWater_73) (cut := cutX12_readWater) (cs := csX12_readWater) dX12_readWater_73 csX12_readWater_ok hd 34 73 _ h
def pX12_readWater_133 : List (Nat × Instr × Nat) := [(19, .iload_n 2, 1), (133, .aload_n 0, 1), (134, .getfield 116, 3), (137, .iconst (-1), 1), (138, .if_icmp .ne 16, 3), (141, .aload_n 0, 1), (142, .invokevirtual 128, 3), (145, .bipush 59, 2), (147, .if_icmp .ne 7, 3), (150, .iconst 1, 1), (151, .goto 4, 3), (154, .iconst 0, 1), (155, .istore_n 2, 1), (156, .aload_n 0, 1), (157, .dup, 1), (158, .getfield 109, 3), (161, .iload_n 2, 1), (162, .ifCond .eq 7, 3), (165, .iconst 1, 1), (166, .goto 4, 3), (169, .iconst 0, 1), (170, .iadd, 1), (171, .putfield 109, 3), (174, .goto (-155), 3)]
set_option maxRecDepth 100000 in
theorem dX12_readWater_133 : mj_pd cX12_readWater pX12_readWater_133 := mj_pdB (by decide +kernel)
set_option maxRecDepth 100000 in
set_option maxHeartbeats 4000000 in
theorem bX12_readWater_133 {Ω : mj_Om} {l : Launch} {d : Nat} {Φ : Option Value → mj_M → Prop} (hd : 5 ≤ d) (x1 : Int32) (x2 : Int32) (x3 : Int32) (I : Nat → Nat → Int32) (J : Nat → Nat → Int64)
    (h : ((if (I 91 4) = (-1 : Int32) then ((91 = 91 ∧ mj_isk (mk I J)) ∧ (∃ t3016 : Nat, (∃ τ3017 : Nat → Int32, (∃ p3018 : Nat, ((TM I t3016 τ3017 ∧ I 91 3 = nI p3018 ∧ p3018 ≤ 300) ∧ (∀ I3019 : Nat → Nat → Int32, (I3019 91 3 = nI (skp t3016 τ3017 p3018) ∧ fr mFr I I3019) → (if (nsg t3016 τ3017 p3018) = (59 : Int32) then (mj_G Ω l false mX12_readWater d 0 0 Φ 0 0 19 ([some (.ref 91), some (.int x1), some (.int (1 : Int32)), none], [], (mk (mj_ui I3019 91 3 ((I3019 91 3) + (1 : Int32))) J))) else (mj_G Ω l false mX12_readWater d 0 0 Φ 0 0 19 ([some (.ref 91), some (.int x1), some (.int (0 : Int32)), none], [], (mk (mj_ui I3019 91 3 ((I3019 91 3) + (0 : Int32))) J)))))))))) else (mj_G Ω l false mX12_readWater d 0 0 Φ 0 0 19 ([some (.ref 91), some (.int x1), some (.int (0 : Int32)), none], [], (mk (mj_ui I 91 3 ((I 91 3) + (0 : Int32))) J)))))) :
    mj_G Ω l false mX12_readWater d 0 0 Φ 0 0 133 ([some (.ref 91), some (.int x1), some (.int x2), some (.int x3)], [], mk I J) := mj_blk (μ := mX12_readWater) (P := pX12_readWater_133) (cut := cutX12_readWater) (cs := csX12_readWater) dX12_readWater_133 csX12_readWater_ok hd 25 133 _ h
def pX12_readWater_177 : List (Nat × Instr × Nat) := [(177, .aload_n 0, 1), (178, .getfield 116, 3), (181, .iconst (-1), 1), (182, .if_icmp .ne 23, 3), (185, .aload_n 0, 1), (186, .invokevirtual 128, 3), (189, .iconst (-1), 1), (190, .if_icmp .ne 11, 3), (193, .aload_n 0, 1), (194, .iload_n 1, 1), (195, .invokevirtual 245, 3), (198, .ifCond .ne 7, 3), (201, .aload_n 0, 1), (202, .invokevirtual 125, 3), (205, .aload_n 0, 1), (206, .getfield 116, 3), (209, .ireturn, 1)]
set_option maxRecDepth 100000 in
theorem dX12_readWater_177 : mj_pd cX12_readWater pX12_readWater_177 := mj_pdB (by decide +kernel)
set_option maxRecDepth 100000 in
set_option maxHeartbeats 4000000 in
theorem bX12_readWater_177 {Ω : mj_Om} {l : Launch} {d : Nat} {Φ : Option Value → mj_M → Prop} (hd : 5 ≤ d) (x1 : Int32) (x2 : Int32) (I : Nat → Nat → Int32) (J : Nat → Nat → Int64)
    (h : ((if (I 91 4) = (-1 : Int32) then ((91 = 91 ∧ mj_isk (mk I J)) ∧ (∃ t3021 : Nat, (∃ τ3022 : Nat → Int32, (∃ p3023 : Nat, ((TM I t3021 τ3022 ∧ I 91 3 = nI p3023 ∧ p3023 ≤ 300) ∧ (∀ I3024 : Nat → Nat → Int32, (I3024 91 3 = nI (skp t3021 τ3022 p3023) ∧ fr mFr I I3024) → (if (nsg t3021 τ3022 p3023) = (-1 : Int32) then ((91 = 91 ∧ mj_isk (mk I3024 J)) ∧ (∃ n3026 : Nat, ((I3024 91 19 = nI n3026 ∧ n3026 ≤ 8) ∧ (if (b2i (¬ x1 = 0 ∧ 0 < n3026 ∧ ∀ i, i < n3026 → fitM I3024 i)) = (0 : Int32) then ((91 = 91 ∧ mj_isk (mk I3024 J)) ∧ (∀ I3029 : Nat → Nat → Int32, (I3029 = mj_ui I3024 91 4 (bdV I3024)) → (Φ (some (.int (I3029 91 4))) (mk I3029 J)))) else (Φ (some (.int (I3024 91 4))) (mk I3024 J)))))) else ((91 = 91 ∧ mj_isk (mk I3024 J)) ∧ (∀ I3031 : Nat → Nat → Int32, (I3031 = mj_ui I3024 91 4 (bdV I3024)) → (Φ (some (.int (I3031 91 4))) (mk I3031 J))))))))))) else (Φ (some (.int (I 91 4))) (mk I J))))) :
    mj_G Ω l false mX12_readWater d 0 0 Φ 0 0 177 ([some (.ref 91), some (.int x1), some (.int x2), none], [], mk I J) := mj_blk (μ := mX12_readWater) (P := pX12_readWater_177) (cut := cutX12_readWater) (cs := csX12_readWater) dX12_readWater_177 csX12_readWater_ok hd 18 177 _ h
def tX12_readWater : mj_PT := fun as M Φ => match as with
  | [.ref this] => ((this = 91 ∧ mj_isk M) ∧ (∃ t : Nat, (∃ τ : Nat → Int32, ((TM M.2.2.1 t τ) ∧ (∀ I1 : Nat → Nat → Int32, (fr rwF M.2.2.1 I1 ∧ ∀ s, wtP t τ = .ok s → wsM I1 s) → Φ (some (.int (faR (wtP t τ)))) (M.1, M.2.1, I1, M.2.2.2))))))
  | _ => False
set_option maxHeartbeats 16000000 in
theorem mnX12_readWater {Ω : mj_Om} {l : Launch} {d : Nat} {Φ : Option Value → mj_M → Prop} (hd : 5 ≤ d) (t : Nat) (τ : Nat → Int32) (I : Nat → Nat → Int32) (J : Nat → Nat → Int64) (hp : TM I t τ) (h : ∀ I1 : Nat → Nat → Int32, (fr rwF I I1 ∧ ∀ s, wtP t τ = .ok s → wsM I1 s) → Φ (some (.int (faR (wtP t τ)))) (mk I1 J)) : mj_Met Ω l false mX12_readWater d 0 0 [.ref 91] (mk I J) Φ := by
  refine inX12_readWater hd I J ?_
  have ht := hp.1.1
  have TA : ∀ A, fr rwF I A → TM A t τ := fun A hA => TM_fr hp (hA 91 2 (by unfold rwF; omega)) (fun k => hA 92 k (by unfold rwF; omega))
  have mr : ∀ {A B : Nat → Nat → Int32}, fr mFr A B → fr rwF A B := fun hm => fr_mo hm (fun c k w => by unfold mFr at w; unfold rwF; omega)
  have hE : ∀ (e : Nat) (A : Nat → Nat → Int32) (x : Int32), wtP t τ = .error e → fr rwF I A → x = nI e → Φ (some (.int x)) (mk A J) := fun e A x he hf hx => by
    have := h A ⟨hf, fun ks hk => by rw [he] at hk; cases hk⟩
    rw [he] at this
    rw [hx]
    exact this
  have hO : ∀ (s : WS) (A : Nat → Nat → Int32) (x : Int32), wtP t τ = .ok s → fr rwF I A → wsM A s → x = -1 → Φ (some (.int x)) (mk A J) := fun s A x he hf hc hx => by
    have := h A ⟨hf, fun s' hk => by rw [he] at hk; cases hk; exact hc⟩
    rw [he] at this
    rw [hx]
    exact this
  have bye : ∀ (x1 x2 : Int32) (e : Nat) (B : Nat → Nat → Int32), e ≤ 300 → wtP t τ = .error e → fr rwF I B → B 91 4 = nI e → mj_G Ω l false mX12_readWater d 0 0 Φ 0 0 177 ([some (.ref 91), some (.int x1), some (.int x2), none], [], mk B J) := by
    intro x1 x2 e B e3 he bF b4
    refine bX12_readWater_177 hd x1 x2 B J ?_
    rw [if_neg (by rw [b4]; exact nI_n1 e3)]
    exact hE e B _ he bF b4
  have bye133 : ∀ (x1 x2 x3 : Int32) (e : Nat) (B : Nat → Nat → Int32), e ≤ 300 → wtP t τ = .error e → fr rwF I B → B 91 4 = nI e → mj_G Ω l false mX12_readWater d 0 0 Φ 0 0 133 ([some (.ref 91), some (.int x1), some (.int x2), some (.int x3)], [], mk B J) := by
    intro x1 x2 x3 e B e3 he bF b4
    refine bX12_readWater_133 hd x1 x2 x3 B J ?_
    rw [if_neg (by rw [b4]; exact nI_n1 e3)]
    refine bX12_readWater_19 hd x1 0 _ J ?_
    rw [if_pos rfl]
    exact bye x1 0 e _ e3 he (fr_ui bF (by unfold rwF; omega)) (by rw [ui_k (by decide)]; exact b4)
  have key : ∀ (f q : Nat) (s : WS) (B : Nat → Nat → Int32), t + 1 ≤ q + f → q ≤ t → B 91 3 = nI q → B 91 4 = -1 → wsM B s → wRg s → fr rwF I B → wtP t τ = waP t τ f q s → mj_G Ω l false mX12_readWater d 0 0 Φ 0 0 19 ([some (.ref 91), some (.int (bI s.1)), some (.int 1), none], [], mk B J) := by
    intro f
    induction f with
    | zero => intro q s B hf hq b3 b4 bS bR bF he; omega
    | succ f ih =>
      intro q s B hf hq b3 b4 bS bR bF he
      have k1 := skp_le (τ := τ) hq
      have k2 := skp_ge (t := t) (τ := τ) (p := q)
      rw [waP] at he
      refine bX12_readWater_19 hd (bI s.1) 1 B J ?_
      rw [if_neg (by decide), if_pos b4]
      refine ⟨⟨by trivial, mj_isk_mk _ _⟩, t, τ, q, ⟨TA B bF, b3, by omega⟩, fun C hC => ?_⟩
      obtain ⟨c3, cm⟩ := hC
      have cF : fr rwF I C := fr_tr bF (mr cm)
      have c4 : C 91 4 = -1 := by rw [cm 91 4 (by unfold mFr; omega)]; exact b4
      have cS := wsM_fr bS cm
      obtain ⟨o1, o2⟩ := wcP_ok (τ := τ) (b := s.1) (n := s.2.2.1) hq
      have fin : ∀ (x2 x3 : Int32) (r : Nat × Bool × (Nat → Int32)) (D : Nat → Nat → Int32), wcP t τ q s.1 s.2.2.1 = .ok r → fr rwF I D → D 91 3 = nI r.1 → D 91 4 = -1 → wsM D (wst s r.2.1 r.2.2) → mj_G Ω l false mX12_readWater d 0 0 Φ 0 0 133 ([some (.ref 91), some (.int (bI (wst s r.2.1 r.2.2).1)), some (.int x2), some (.int x3)], [], mk D J) := by
        intro x2 x3 r D hr dF d3 d4 dS
        obtain ⟨p1, p2, p3, p4, p5⟩ := o2 r hr
        have cR := wst_rg bR (fun w => (p4 w).2) p5
        rw [hr] at he
        dsimp only at he
        refine bX12_readWater_133 hd _ x2 x3 D J ?_
        rw [if_pos d4]
        refine ⟨⟨by trivial, mj_isk_mk _ _⟩, t, τ, r.1, ⟨TA D dF, d3, by omega⟩, fun E hE2 => ?_⟩
        obtain ⟨e3, em⟩ := hE2
        rw [p3] at e3
        have eF : fr rwF I E := fr_tr dF (mr em)
        have e4 : E 91 4 = -1 := by rw [em 91 4 (by unfold mFr; omega)]; exact d4
        have eS := wsM_fr dS em
        by_cases s1 : nsg t τ r.1 = 59
        · rw [if_pos s1, e3, jn_succ]
          rw [if_pos s1, p3] at he
          have hlt : r.1 < t := by have := nsg_p s1 (by decide); rw [p3] at this; exact this
          exact ih (r.1 + 1) _ _ (by omega) (by omega) ui_s (by rw [ui_k (by decide)]; exact e4) ⟨fun w j hj => by rw [ui_c (by decide)]; exact eS.1 w j hj, by rw [ui_k (by decide)]; exact eS.2.1, fun i hi k hk => by rw [ui_c (by decide)]; exact eS.2.2 i hi k hk⟩ cR (fr_ui eF (by unfold rwF; omega)) he
        · rw [if_neg s1]
          rw [if_neg s1] at he
          refine bX12_readWater_19 hd _ 0 _ J ?_
          rw [if_pos rfl]
          refine bX12_readWater_177 hd _ 0 _ J ?_
          rw [ui_k (k' := 4) (by decide), if_pos e4, e3, Int32.add_zero]
          have gF : fr rwF I (mj_ui E 91 3 (nI r.1)) := fr_ui eF (by unfold rwF; omega)
          refine ⟨⟨by trivial, mj_isk_mk _ _⟩, t, τ, r.1, ⟨TA _ gF, ui_s, by omega⟩, fun F hF => ?_⟩
          obtain ⟨f3, fm⟩ := hF
          rw [p3] at f3
          have fF : fr rwF I F := fr_tr gF (mr fm)
          have f4 : F 91 4 = -1 := by rw [fm 91 4 (by unfold mFr; omega), ui_k (by decide)]; exact e4
          have fS : wsM F (wst s r.2.1 r.2.2) := wsM_fr ⟨fun w j hj => by rw [ui_c (by decide)]; exact eS.1 w j hj, by rw [ui_k (by decide)]; exact eS.2.1, fun i hi k hk => by rw [ui_c (by decide)]; exact eS.2.2 i hi k hk⟩ fm
          have hb : bdV F = nI r.1 := by unfold bdV; rw [if_pos f4, f3]
          by_cases s2 : nsg t τ r.1 = -1
          case neg =>
            rw [if_neg s2]
            rw [if_neg s2] at he
            refine ⟨⟨by trivial, mj_isk_mk _ _⟩, fun G hG => ?_⟩
            rw [hb] at hG
            exact hE _ G _ he (by rw [hG]; exact fr_ui fF (by unfold rwF; omega)) (by rw [hG, ui_s, p3])
          rw [if_pos s2]
          rw [if_pos s2] at he
          have et : r.1 = t := by have := skp_t hp.1 p2 s2; rw [p3] at this; exact this
          refine ⟨⟨by trivial, mj_isk_mk _ _⟩, (wst s r.2.1 r.2.2).2.2.1, ⟨fS.2.1, cR.2.1⟩, ?_⟩
          have iff := whole_fitM fS
          by_cases wf : whole (wst s r.2.1 r.2.2)
          · rw [if_neg (by rw [b2i_e0]; exact fun u => u (iff.mpr wf))]
            exact hO _ F _ (by rw [he, cif_t wf]) fF fS f4
          · rw [if_pos (by rw [b2i_e0]; exact fun u => wf (iff.mp u))]
            refine ⟨⟨by trivial, mj_isk_mk _ _⟩, fun G hG => ?_⟩
            rw [hb] at hG
            exact hE t G _ (by rw [he, cif_f wf]) (by rw [hG]; exact fr_ui fF (by unfold rwF; omega)) (by rw [hG, ui_s, et])
      have g73 : ¬ (nsg t τ q = 108 ∧ s.1 = false) → mj_G Ω l false mX12_readWater d 0 0 Φ 0 0 73 ([some (.ref 91), some (.int (bI s.1)), some (.int 1), some (.int (nsg t τ q))], [], mk C J) := by
        intro nq
        refine bX12_readWater_73 hd (bI s.1) 1 (nsg t τ q) C J ?_
        rw [cS.2.1]
        have eN : ¬ (nsg t τ q = 98 ∧ s.2.2.1 < 8) → wcP t τ q s.1 s.2.2.1 = .error (skp t τ q) := fun q2 => by unfold wcP; rw [if_neg nq, if_neg q2]
        have hb : bdV C = nI (skp t τ q) := by unfold bdV; rw [if_pos c4, c3]
        have ebad : ¬ (nsg t τ q = 98 ∧ s.2.2.1 < 8) → ∀ D : Nat → Nat → Int32, D = mj_ui C 91 4 (bdV C) → mj_G Ω l false mX12_readWater d 0 0 Φ 0 0 133 ([some (.ref 91), some (.int (bI s.1)), some (.int 1), some (.int (nsg t τ q))], [], mk D J) := fun q2 D hD => by
          rw [hb] at hD
          have := eN q2
          rw [this] at he
          exact bye133 _ _ _ (skp t τ q) D (by omega) he (by rw [hD]; exact fr_ui cF (by unfold rwF; omega)) (by rw [hD, ui_s])
        by_cases s1 : nsg t τ q = 98
        case neg => rw [if_neg s1]; exact ⟨⟨by trivial, mj_isk_mk _ _⟩, fun D hD => ebad (fun w => s1 w.1) D hD⟩
        rw [if_pos s1]
        by_cases s2 : s.2.2.1 < 8
        case neg => rw [if_neg (show ¬ nI s.2.2.1 < 8 from nnl (b := 8) (by omega) (by have := bR.2.1; omega))]; exact ⟨⟨by trivial, mj_isk_mk _ _⟩, fun D hD => ebad (fun w => s2 w.2) D hD⟩
        rw [if_pos (show nI s.2.2.1 < 8 from nlt (b := 8) s2 (by omega)), c3, jn_succ]
        have h3 : skp t τ q + 1 ≤ t := nsg_p s1 (by decide)
        have dF : fr rwF I (mj_ui C 91 3 (nI (skp t τ q + 1))) := fr_ui cF (by unfold rwF; omega)
        refine ⟨⟨by trivial, mj_isk_mk _ _⟩, t, τ, skp t τ q + 1, 6 * s.2.2.1, ⟨Or.inr ⟨rfl, by rw [s1]; decide, by rw [show (6 : Int32) = nI 6 from rfl, jn_mul], rfl, by omega⟩, TA _ dF, ui_s, h3, by rw [ui_k (by decide)]; exact c4⟩, fun D hD => ?_⟩
        obtain ⟨⟨d1, d2⟩, d3⟩ := hD
        have dF' : fr rwF I D := fr_tr dF (fr_mo d3 (fun c k w => by unfold tFr at w; unfold rwF; omega))
        have d19 : D 91 19 = nI s.2.2.1 := by rw [d3 91 19 (by unfold tFr; omega), ui_k (by decide)]; exact cS.2.1
        have eW : wcP t τ q s.1 s.2.2.1 = (match itBP t τ (skp t τ q + 1) with
          | .error e => .error e
          | .ok r => .ok (r.1, false, r.2)) := by unfold wcP; rw [if_neg nq, if_pos ⟨s1, s2⟩]; all_goals (cases itBP t τ (skp t τ q + 1) <;> rfl)
        rw [d19, jn_succ]
        have gF : fr rwF I (mj_ui D 91 19 (nI (s.2.2.1 + 1))) := fr_ui dF' (by unfold rwF; omega)
        cases hr : itBP t τ (skp t τ q + 1) with
        | error e =>
          obtain ⟨e3, e4⟩ := d1 e hr
          rw [hr] at eW
          rw [eW] at he
          exact bye133 _ _ _ e _ e3 he gF (by rw [ui_k (by decide)]; exact e4)
        | ok y =>
          obtain ⟨y3, y4, y5⟩ := d2 y hr
          rw [hr] at eW
          refine fin 1 _ (y.1, false, y.2) _ eW gF (by rw [ui_k (by decide)]; exact y3) (by rw [ui_k (by decide)]; exact y4) ⟨fun w j hj => ?_, ui_s, fun i hi k hk => ?_⟩
          · rw [ui_c (by decide), d3 102 j (by unfold tFr; omega), ui_c (by decide)]; exact cS.1 w j hj
          · rw [ui_c (by decide)]
            show D 103 (6 * i + k) = (if i = s.2.2.1 then y.2 else s.2.2.2 i) k
            by_cases z : i = s.2.2.1
            · rw [if_pos z, z]; exact y5 k hk
            · rw [if_neg z]
              have : i < s.2.2.1 + 1 := hi
              rw [d3 103 _ (by unfold tFr; omega), ui_c (by decide)]; exact cS.2.2 i (by omega) k hk
      by_cases s1 : nsg t τ q = 108
      case neg => rw [if_neg s1]; exact g73 (fun w => s1 w.1)
      rw [if_pos s1]
      cases hb : s.1 with
      | true =>
        rw [hb] at g73
        rw [if_neg (by decide)]
        exact g73 (fun w => by cases w.2)
      | false =>
        rw [if_pos (by decide), c3, jn_succ]
        have h3 : skp t τ q + 1 ≤ t := nsg_p s1 (by decide)
        have dF : fr rwF I (mj_ui C 91 3 (nI (skp t τ q + 1))) := fr_ui cF (by unfold rwF; omega)
        refine ⟨⟨by trivial, mj_isk_mk _ _⟩, t, τ, skp t τ q + 1, 0, ⟨Or.inl ⟨rfl, s1, rfl, rfl, rfl⟩, TA _ dF, ui_s, h3, by rw [ui_k (by decide)]; exact c4⟩, fun D hD => ?_⟩
        obtain ⟨⟨d1, d2⟩, d3⟩ := hD
        have dF' : fr rwF I D := fr_tr dF (fr_mo d3 (fun c k w => by unfold tFr at w; unfold rwF; omega))
        have eW : wcP t τ q s.1 s.2.2.1 = (match itLP t τ (skp t τ q + 1) with
          | .error e => .error e
          | .ok r => .ok (r.1, true, r.2)) := by unfold wcP; rw [if_pos ⟨s1, hb⟩]; all_goals (cases itLP t τ (skp t τ q + 1) <;> rfl)
        cases hr : itLP t τ (skp t τ q + 1) with
        | error e =>
          obtain ⟨e3, e4⟩ := d1 e hr
          rw [hr] at eW
          rw [eW] at he
          exact bye133 _ _ _ e _ e3 he dF' e4
        | ok y =>
          obtain ⟨y3, y4, y5⟩ := d2 y hr
          rw [hr] at eW
          refine fin 1 _ (y.1, true, y.2) _ eW dF' y3 y4 ⟨fun w j hj => ?_, ?_, fun i hi k hk => ?_⟩
          · have := y5 j hj; rw [Nat.zero_add] at this; exact this
          · rw [d3 91 19 (by unfold tFr; omega), ui_k (by decide)]; exact cS.2.1
          · rw [d3 103 _ (by unfold tFr; omega), ui_c (by decide)]; exact cS.2.2 i hi k hk
  exact key (t + 1) 0 ws0 _ (by omega) (by omega) (by rw [ui_k (by decide), ui_k (by decide), ui_s]; rfl) (by rw [ui_k (by decide), ui_s]) ⟨fun w => (by cases w), ui_s, fun i hi => absurd hi (Nat.not_lt_zero i)⟩ wRg0 (fr_ui (fr_ui (fr_ui fr_rf (by unfold rwF; omega)) (by unfold rwF; omega)) (by unfold rwF; omega)) rfl
theorem sdX12_readWater : mj_Sd mX12_readWater 5 tX12_readWater := by
  intro Ω l d hd as M Φ h
  unfold tX12_readWater at h
  split at h
  · rename_i z_this
    obtain ⟨⟨rfl, hM⟩, t, τ, hp, h⟩ := h
    rw [mj_isk_of hM]
    exact mnX12_readWater hd t τ _ _ hp (by
      rw [mj_isk_of hM] at h
      exact h)
  · exact h.elim
