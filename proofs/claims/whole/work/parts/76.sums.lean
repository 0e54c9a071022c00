/-! ===== the class's RuleReader: sums (by program, wip/whole/p76.py) ===== -/
theorem out_E {Φ : Option Value → mj_M → Prop} {r : PR} {n : Nat} {I A : Nat → Nat → Int32} {J : Nat → Nat → Int64} {e : Nat} (h : ∀ I1 : Nat → Nat → Int32, (wrC r n I I1) → Φ (some (.int (okB r))) (mk I1 J)) (he : r = .error e) (hf : fr cFr I A) (ha : A 1 2 = nI e) : Φ (some (.int 0)) (mk A J) := by
  have := h A ⟨hf, fun e' h' => by rw [he] at h'; cases h'; exact ha, fun q h' => by rw [he] at h'; cases h'⟩
  rw [he] at this
  exact this
theorem out_O {Φ : Option Value → mj_M → Prop} {r : PR} {n : Nat} {I A : Nat → Nat → Int32} {J : Nat → Nat → Int64} {q : Nat × List Int32} (h : ∀ I1 : Nat → Nat → Int32, (wrC r n I I1) → Φ (some (.int (okB r))) (mk I1 J)) (he : r = .ok q) (hf : fr cFr I A) (ha : A 1 2 = nI q.1) (hc : Cd A n q.2 (I 25)) : Φ (some (.int 1)) (mk A J) := by
  have := h A ⟨hf, fun e' h' => by rw [he] at h'; (cases h'), fun q' h' => by rw [he] at h'; cases h'; exact ⟨ha, hc⟩⟩
  rw [he] at this
  exact this
theorem tkp_skp {t : Nat} {τ : Nat → Int32} {p : Nat} : tkp t τ (skp t τ p) (nsg t τ p) = skp t τ p + 1 := by unfold tkp; rw [nsg_skp, if_pos rfl, skp_skp]
theorem tkp_y {t : Nat} {τ : Nat → Int32} {p : Nat} {s : Int32} (h : nsg t τ p = s) : tkp t τ p s = skp t τ p + 1 := if_pos h
theorem tkp_n {t : Nat} {τ : Nat → Int32} {p : Nat} {s : Int32} (h : ¬ nsg t τ p = s) : tkp t τ p s = skp t τ p := if_neg h
theorem r25 {I A : Nat → Nat → Int32} (h : fr rFr I A) : A 25 = I 25 := funext (fun k => h 25 k (by unfold rFr; omega))
theorem r24 {I A : Nat → Nat → Int32} (h : fr rFr I A) : A 24 2 = I 24 2 := h 24 2 (by unfold rFr; omega)
theorem s10000 : ((Int16.ofInt 10000).toInt32) = (10000 : Int32) := by decide
theorem nI_mm {k : Nat} (h : k < 100000) : ¬ nI k = -1 := fun q => by
  have := congrArg Int32.toInt q
  rw [jn_toInt (by omega), show (-1 : Int32).toInt = -1 from rfl] at this
  omega
def csX7_emitS : List (Nat × Nat × Nat × mj_PT) := []
theorem csX7_emitS_ok : mj_Cs mX7_emit 1 csX7_emitS := mj_Cs0
def cutX7_emitS : List (Nat × List Bool) := []
set_option maxRecDepth 100000 in
set_option maxHeartbeats 4000000 in
theorem inX7_emitS {Ω : mj_Om} {l : Launch} {d : Nat} {Φ : Option Value → mj_M → Prop} (hd : 1 ≤ d) (x : Int32) (I : Nat → Nat → Int32) (J : Nat → Nat → Int64)
    (h : ((if (I 24 2) < (240 : Int32) then (mj_gd (mj_inB (I 24 2) 240) (Φ none (mk (mj_ui (mj_ui I 25 ((I 24 2)).toNatClampNeg x) 24 2 ((I 24 2) + (1 : Int32))) J))) else (Φ none (mk I J))))) :
    mj_Met Ω l false mX7_emit d 0 0 [.ref 24, .int x] (mk I J) Φ := mj_entry (by decide) rfl (fun h => (by cases h)) (Nat.le_of_ble_eq_true rfl) (mj_blk (μ := mX7_emit) (P := pX7_emit) (cut := cutX7_emitS) (cs := csX7_emitS) dX7_emit csX7_emitS_ok hd 20 0 _ h)
def tX7_emitS : mj_PT := fun as M Φ => match as with
  | [.ref this, .int x] => ((this = 24 ∧ mj_isk M) ∧ (∃ n : Nat, ((M.2.2.1 24 2 = nI n ∧ n < 240) ∧ (∀ I1 : Nat → Nat → Int32, (I1 = mj_ui (mj_ui M.2.2.1 25 n x) 24 2 (nI (n + 1))) → Φ none (M.1, M.2.1, I1, M.2.2.2)))))
  | _ => False
theorem mnX7_emitS {Ω : mj_Om} {l : Launch} {d : Nat} {Φ : Option Value → mj_M → Prop} (hd : 1 ≤ d) (x : Int32) (n : Nat) (I : Nat → Nat → Int32) (J : Nat → Nat → Int64) (hp : I 24 2 = nI n ∧ n < 240) (h : ∀ I1 : Nat → Nat → Int32, (I1 = mj_ui (mj_ui I 25 n x) 24 2 (nI (n + 1))) → Φ none (mk I1 J)) : mj_Met Ω l false mX7_emit d 0 0 [.ref 24, .int x] (mk I J) Φ := by
  refine inX7_emitS hd x I J ?_
  obtain ⟨h1, h2⟩ := hp
  rw [h1, if_pos (show nI n < 240 by rw [show (240 : Int32) = nI 240 from rfl, jn_lt (by omega) (by omega)]; exact h2), jn_succ]
  simp (disch := omega) only [jn_in, jn_cl, gd_dec]
  exact h _ rfl
theorem sdX7_emitS : mj_Sd mX7_emit 1 tX7_emitS := by
  intro Ω l d hd as M Φ h
  unfold tX7_emitS at h
  split at h
  · rename_i z_this x
    obtain ⟨⟨rfl, hM⟩, n, hp, h⟩ := h
    rw [mj_isk_of hM]
    exact mnX7_emitS hd x n _ _ hp (by
      rw [mj_isk_of hM] at h
      exact h)
  · exact h.elim
def csX7_comparisonOfS : List (Nat × Nat × Nat × mj_PT) := []
theorem csX7_comparisonOfS_ok : mj_Cs mX7_comparisonOf 1 csX7_comparisonOfS := mj_Cs0
def cutX7_comparisonOfS : List (Nat × List Bool) := []
set_option maxRecDepth 100000 in
set_option maxHeartbeats 4000000 in
theorem inX7_comparisonOfS {Ω : mj_Om} {l : Launch} {d : Nat} {Φ : Option Value → mj_M → Prop} (hd : 1 ≤ d) (s : Int32) (I : Nat → Nat → Int32) (J : Nat → Nat → Int64)
    (h : ((if s = (60 : Int32) then (Φ (some (.int ((Int16.ofInt 20005).toInt32))) (mk I J)) else (if s = (61 : Int32) then (Φ (some (.int ((Int16.ofInt 20004).toInt32))) (mk I J)) else (if s = (62 : Int32) then (Φ (some (.int ((Int16.ofInt 20006).toInt32))) (mk I J)) else (Φ (some (.int (-1 : Int32))) (mk I J))))))) :
    mj_Met Ω l false mX7_comparisonOf d 0 0 [.int s] (mk I J) Φ := mj_entry (by decide) rfl (fun h => (by cases h)) (Nat.le_of_ble_eq_true rfl) (mj_blk (μ := mX7_comparisonOf) (P := pX7_comparisonOf) (cut := cutX7_comparisonOfS) (cs := csX7_comparisonOfS) dX7_comparisonOf csX7_comparisonOfS_ok hd 11 0 _ h)
def tX7_comparisonOfS : mj_PT := fun as M Φ => match as with
  | [.int s] => ((mj_isk M) ∧ Φ (some (.int (if cmO s = 0 then -1 else cmO s))) M)
  | _ => False
theorem mnX7_comparisonOfS {Ω : mj_Om} {l : Launch} {d : Nat} {Φ : Option Value → mj_M → Prop} (hd : 1 ≤ d) (s : Int32) (I : Nat → Nat → Int32) (J : Nat → Nat → Int64) (h : Φ (some (.int (if cmO s = 0 then -1 else cmO s))) (mk I J)) : mj_Met Ω l false mX7_comparisonOf d 0 0 [.int s] (mk I J) Φ := by
  refine inX7_comparisonOfS hd s I J ?_
  have e1 : ((Int16.ofInt 20005).toInt32) = (20005 : Int32) := by decide
  have e2 : ((Int16.ofInt 20004).toInt32) = (20004 : Int32) := by decide
  have e3 : ((Int16.ofInt 20006).toInt32) = (20006 : Int32) := by decide
  rw [e1, e2, e3]
  unfold cmO at h
  by_cases q1 : s = 60
  · rw [if_pos q1]; rw [if_pos q1, if_neg (by decide)] at h; exact h
  rw [if_neg q1]; rw [if_neg q1] at h
  by_cases q2 : s = 61
  · rw [if_pos q2]; rw [if_pos q2, if_neg (by decide)] at h; exact h
  rw [if_neg q2]; rw [if_neg q2] at h
  by_cases q3 : s = 62
  · rw [if_pos q3]; rw [if_pos q3, if_neg (by decide)] at h; exact h
  rw [if_neg q3]; rw [if_neg q3, if_pos rfl] at h; exact h
theorem sdX7_comparisonOfS : mj_Sd mX7_comparisonOf 1 tX7_comparisonOfS := by
  intro Ω l d hd as M Φ h
  unfold tX7_comparisonOfS at h
  split at h
  · rename_i s
    obtain ⟨hM, h⟩ := h
    rw [mj_isk_of hM]
    exact mnX7_comparisonOfS hd s _ _ (by
      rw [mj_isk_of hM] at h
      exact h)
  · exact h.elim
def tX7_readAtom (w : Nat) : mj_PT := fun as M Φ => match as with
  | [.ref this, .int v] => ((this = 24 ∧ mj_isk M) ∧ (∃ t : Nat, (∃ τ : Nat → Int32, (∃ p : Nat, (∃ n : Nat, ((w ≤ 6 ∧ v = nI w ∧ prC M.2.2.1 t τ p n) ∧ (∀ I1 : Nat → Nat → Int32, (wrC (atW t τ w p) n M.2.2.1 I1) → Φ (some (.int (okB (atW t τ w p)))) (M.1, M.2.1, I1, M.2.2.2))))))))
  | _ => False
def tX7_readTerm (w : Nat) : mj_PT := fun as M Φ => match as with
  | [.ref this, .int v] => ((this = 24 ∧ mj_isk M) ∧ (∃ t : Nat, (∃ τ : Nat → Int32, (∃ p : Nat, (∃ n : Nat, ((w ≤ 6 ∧ v = nI w ∧ prC M.2.2.1 t τ p n) ∧ (∀ I1 : Nat → Nat → Int32, (wrC (tmW t τ w p) n M.2.2.1 I1) → Φ (some (.int (okB (tmW t τ w p)))) (M.1, M.2.1, I1, M.2.2.2))))))))
  | _ => False
def tX7_readSum (w : Nat) : mj_PT := fun as M Φ => match as with
  | [.ref this, .int v] => ((this = 24 ∧ mj_isk M) ∧ (∃ t : Nat, (∃ τ : Nat → Int32, (∃ p : Nat, (∃ n : Nat, ((w ≤ 6 ∧ v = nI w ∧ prC M.2.2.1 t τ p n) ∧ (∀ I1 : Nat → Nat → Int32, (wrC (smW t τ w p) n M.2.2.1 I1) → Φ (some (.int (okB (smW t τ w p)))) (M.1, M.2.1, I1, M.2.2.2))))))))
  | _ => False
def csX7_readAtom (w : Nat) : List (Nat × Nat × Nat × mj_PT) := [(37, 0, 2, mj_rcv 8 tX8_take), (41, 0, 1, mj_rcv 8 tX8_nextSign), (52, 0, 2, mj_rcv 7 (tX7_readSum (w + 1))), (59, 0, 2, mj_rcv 7 tX7_emitS), (77, 1, 2, tX8_indexInL), (81, 0, 2, mj_rcv 8 tX8_takeNumber)]
theorem csX7_readAtom_ok {w : Nat} (hw : w ≤ 6) (h_X7_readSum : mj_Sd mX7_readSum (7 + 3 * (7 - (w + 1)) + 2) (tX7_readSum (w + 1))) : mj_Cs mX7_readAtom (7 + 3 * (7 - w) + 0) (csX7_readAtom w) := (mj_CsV (D' := 2) (ci := 8) (q := (RX8, TX8, 3)) sdX8_take (by omega) fX8_take rfl rfl iX8_take vX8_take (by decide +kernel) l7_37 (mj_CsV (D' := 1) (ci := 8) (q := (RX8, TX8, 3)) sdX8_nextSign (by omega) fX8_nextSign rfl rfl iX8_nextSign vX8_nextSign (by decide +kernel) l7_41 (mj_CsV (D' := (7 + 3 * (7 - (w + 1)) + 2)) (ci := 7) (q := (RX7, TX7, 3)) h_X7_readSum (by omega) fX7_readSum rfl rfl iX7_readSum vX7_readSum (by decide +kernel) l7_52 (mj_CsV (D' := 1) (ci := 7) (q := (RX7, TX7, 3)) sdX7_emitS (by omega) fX7_emit rfl rfl iX7_emit vX7_emit (by decide +kernel) l7_59 (mj_CsS (D' := 5) sdX8_indexInL (by omega) fX8_indexIn sX8_indexIn (by decide +kernel) l7_77 (mj_CsV (D' := 2) (ci := 8) (q := (RX8, TX8, 3)) sdX8_takeNumber (by omega) fX8_takeNumber rfl rfl iX8_takeNumber vX8_takeNumber (by decide +kernel) l7_81 mj_Cs0))))))
def cutX7_readAtom : List (Nat × List Bool) := []
def pX7_readAtom_0 : List (Nat × Instr × Nat) := [(0, .aload_n 0, 1), (1, .getfield 17, 3), (4, .invokevirtual 41, 3), (7, .istore_n 2, 1), (8, .iload_n 2, 1), (9, .bipush 91, 2), (11, .if_icmp .ne 48, 3), (14, .iload_n 1, 1), (15, .bipush 6, 2), (17, .if_icmp .ge 40, 3), (20, .aload_n 0, 1), (21, .getfield 17, 3), (24, .iload_n 2, 1), (25, .invokevirtual 37, 3), (28, .ifCond .eq 29, 3), (31, .aload_n 0, 1), (32, .iload_n 1, 1), (33, .iconst 1, 1), (34, .iadd, 1), (35, .invokevirtual 52, 3), (38, .ifCond .eq 19, 3), (41, .aload_n 0, 1), (42, .getfield 17, 3), (45, .bipush 93, 2), (47, .invokevirtual 37, 3), (50, .ifCond .eq 7, 3), (53, .iconst 1, 1), (54, .goto 4, 3), (57, .iconst 0, 1), (58, .ireturn, 1), (59, .ldc 75, 2), (61, .iload_n 2, 1), (62, .invokestatic 77, 3), (65, .istore_n 3, 1), (66, .iload_n 3, 1), (67, .ifCond .lt 21, 3), (70, .aload_n 0, 1), (71, .sipush 10000, 3), (74, .iload_n 3, 1), (75, .iadd, 1), (76, .invokevirtual 59, 3), (79, .aload_n 0, 1), (80, .getfield 17, 3), (83, .iload_n 2, 1), (84, .invokevirtual 37, 3), (87, .ireturn, 1), (88, .aload_n 0, 1), (89, .getfield 17, 3), (92, .iconst 4, 1), (93, .invokevirtual 81, 3), (96, .istore 4, 2), (98, .iload 4, 2), (100, .iconst (-1), 1), (101, .if_icmp .ne 5, 3), (104, .iconst 0, 1), (105, .ireturn, 1), (106, .aload_n 0, 1), (107, .iload 4, 2), (109, .invokevirtual 59, 3), (112, .iconst 1, 1), (113, .ireturn, 1)]
set_option maxRecDepth 100000 in
theorem dX7_readAtom_0 : mj_pd cX7_readAtom pX7_readAtom_0 := mj_pdB (by decide +kernel)
set_option maxRecDepth 100000 in
set_option maxHeartbeats 4000000 in
theorem inX7_readAtom {w : Nat} (hcs : mj_Cs mX7_readAtom (7 + 3 * (7 - w) + 0) (csX7_readAtom w)) {Ω : mj_Om} {l : Launch} {d : Nat} {Φ : Option Value → mj_M → Prop} (hd : (7 + 3 * (7 - w) + 0) ≤ d) (v : Int32) (I : Nat → Nat → Int32) (J : Nat → Nat → Int64)
    (h : (((1 = 1 ∧ mj_isk (mk I J)) ∧ (∃ t1122 : Nat, (∃ τ1123 : Nat → Int32, (∃ p1124 : Nat, ((TC I t1122 τ1123 ∧ I 1 2 = nI p1124 ∧ p1124 ≤ t1122) ∧ (∀ I1125 : Nat → Nat → Int32, (I1125 1 2 = nI (skp t1122 τ1123 p1124) ∧ fr rFr I I1125) → (if (nsg t1122 τ1123 p1124) = (91 : Int32) then (if v < (6 : Int32) then ((1 = 1 ∧ mj_isk (mk I1125 J)) ∧ (∃ t1127 : Nat, (∃ τ1128 : Nat → Int32, (∃ p1129 : Nat, ((TC I1125 t1127 τ1128 ∧ I1125 1 2 = nI p1129 ∧ p1129 ≤ t1127) ∧ (∀ I1130 : Nat → Nat → Int32, (I1130 1 2 = nI (tkp t1127 τ1128 p1129 (nsg t1122 τ1123 p1124)) ∧ fr rFr I1125 I1130) → (if (b2i (nsg t1127 τ1128 p1129 = (nsg t1122 τ1123 p1124))) = (0 : Int32) then (Φ (some (.int (0 : Int32))) (mk I1130 J)) else ((24 = 24 ∧ mj_isk (mk I1130 J)) ∧ (∃ t1132 : Nat, (∃ τ1133 : Nat → Int32, (∃ p1134 : Nat, (∃ n1135 : Nat, (((w + 1) ≤ 6 ∧ (v + (1 : Int32)) = nI (w + 1) ∧ prC I1130 t1132 τ1133 p1134 n1135) ∧ (∀ I1136 : Nat → Nat → Int32, (wrC (smW t1132 τ1133 (w + 1) p1134) n1135 I1130 I1136) → (if (okB (smW t1132 τ1133 (w + 1) p1134)) = (0 : Int32) then (Φ (some (.int (0 : Int32))) (mk I1136 J)) else ((1 = 1 ∧ mj_isk (mk I1136 J)) ∧ (∃ t1137 : Nat, (∃ τ1138 : Nat → Int32, (∃ p1139 : Nat, ((TC I1136 t1137 τ1138 ∧ I1136 1 2 = nI p1139 ∧ p1139 ≤ t1137) ∧ (∀ I1140 : Nat → Nat → Int32, (I1140 1 2 = nI (tkp t1137 τ1138 p1139 (93 : Int32)) ∧ fr rFr I1136 I1140) → (if (b2i (nsg t1137 τ1138 p1139 = (93 : Int32))) = (0 : Int32) then (Φ (some (.int (0 : Int32))) (mk I1140 J)) else (Φ (some (.int (1 : Int32))) (mk I1140 J)))))))))))))))))))))))) else (Φ (some (.int (0 : Int32))) (mk I1125 J))) else ((1012 = 1012 ∧ mj_isk (mk I1125 J)) ∧ ((-1 ≤ ((nsg t1122 τ1123 p1124)).toInt ∧ ((nsg t1122 τ1123 p1124)).toInt ≤ 255) ∧ (if (ltr (nsg t1122 τ1123 p1124)) < (0 : Int32) then ((1 = 1 ∧ mj_isk (mk I1125 J)) ∧ (∃ m1144 : Nat, (4 : Int32) = nI m1144 ∧ (∃ t1145 : Nat, (∃ τ1146 : Nat → Int32, (∃ p1147 : Nat, ((TC I1125 t1145 τ1146 ∧ I1125 1 2 = nI p1147 ∧ p1147 ≤ t1145 ∧ m1144 ≤ 4) ∧ (∀ I1148 : Nat → Nat → Int32, (I1148 1 2 = nI (numA (numR t1145 τ1146 m1144 p1147)) ∧ fr rFr I1125 I1148) → (if (numV (numR t1145 τ1146 m1144 p1147)) = (-1 : Int32) then (Φ (some (.int (0 : Int32))) (mk I1148 J)) else ((24 = 24 ∧ mj_isk (mk I1148 J)) ∧ (∃ n1150 : Nat, ((I1148 24 2 = nI n1150 ∧ n1150 < 240) ∧ (∀ I1151 : Nat → Nat → Int32, (I1151 = mj_ui (mj_ui I1148 25 n1150 (numV (numR t1145 τ1146 m1144 p1147))) 24 2 (nI (n1150 + 1))) → (Φ (some (.int (1 : Int32))) (mk I1151 J)))))))))))))) else ((24 = 24 ∧ mj_isk (mk I1125 J)) ∧ (∃ n1153 : Nat, ((I1125 24 2 = nI n1153 ∧ n1153 < 240) ∧ (∀ I1154 : Nat → Nat → Int32, (I1154 = mj_ui (mj_ui I1125 25 n1153 (((Int16.ofInt 10000).toInt32) + (ltr (nsg t1122 τ1123 p1124)))) 24 2 (nI (n1153 + 1))) → ((1 = 1 ∧ mj_isk (mk I1154 J)) ∧ (∃ t1156 : Nat, (∃ τ1157 : Nat → Int32, (∃ p1158 : Nat, ((TC I1154 t1156 τ1157 ∧ I1154 1 2 = nI p1158 ∧ p1158 ≤ t1156) ∧ (∀ I1159 : Nat → Nat → Int32, (I1159 1 2 = nI (tkp t1156 τ1157 p1158 (nsg t1122 τ1123 p1124)) ∧ fr rFr I1154 I1159) → (mj_gd (decide ((b2i (nsg t1156 τ1157 p1158 = (nsg t1122 τ1123 p1124))) = 0) || decide ((b2i (nsg t1156 τ1157 p1158 = (nsg t1122 τ1123 p1124))) = 1)) (Φ (some (.int (b2i (nsg t1156 τ1157 p1158 = (nsg t1122 τ1123 p1124))))) (mk I1159 J))))))))))))))))))))))))) :
    mj_Met Ω l false mX7_readAtom d 0 0 [.ref 24, .int v] (mk I J) Φ := mj_entry (by decide) rfl (fun h => (by cases h)) (Nat.le_of_ble_eq_true rfl) (mj_blk (μ := mX7_readAtom) (P := pX7_readAtom_0) (cut := cutX7_readAtom) (cs := csX7_readAtom w) dX7_readAtom_0 hcs hd 62 0 _ h)
set_option maxHeartbeats 8000000 in
theorem mnX7_readAtom {w : Nat} (hcs : mj_Cs mX7_readAtom (7 + 3 * (7 - w) + 0) (csX7_readAtom w)) {Ω : mj_Om} {l : Launch} {d : Nat} {Φ : Option Value → mj_M → Prop} (hd : (7 + 3 * (7 - w) + 0) ≤ d) (v : Int32) (t : Nat) (τ : Nat → Int32) (p : Nat) (n : Nat) (I : Nat → Nat → Int32) (J : Nat → Nat → Int64) (hp : w ≤ 6 ∧ v = nI w ∧ prC I t τ p n) (h : ∀ I1 : Nat → Nat → Int32, (wrC (atW t τ w p) n I I1) → Φ (some (.int (okB (atW t τ w p)))) (mk I1 J)) : mj_Met Ω l false mX7_readAtom d 0 0 [.ref 24, .int v] (mk I J) Φ := by
  refine inX7_readAtom hcs hd v I J ?_
  obtain ⟨hw, hv, hT, h1, hpt, h24, hn⟩ := hp
  have ht := hT.1.1
  have k1 := skp_le (τ := τ) hpt
  have k2 := skp_ge (t := t) (τ := τ) (p := p)
  refine ⟨⟨by trivial, mj_isk_mk _ _⟩, t, τ, p, ⟨hT, h1, hpt⟩, fun A hA => ?_⟩
  obtain ⟨a1, a2⟩ := hA
  have TA := TC_c hT (rc_fr a2)
  by_cases q : nsg t τ p = 91
  · rw [if_pos q]
    by_cases qw : w < 6
    · rw [if_pos (show v < 6 by rw [hv, show (6 : Int32) = nI 6 from rfl, jn_lt (by omega) (by omega)]; exact qw)]
      refine ⟨⟨by trivial, mj_isk_mk _ _⟩, t, τ, skp t τ p, ⟨TA, a1, k1⟩, fun B hB => ?_⟩
      rw [if_neg (by rw [b2i_e0, nsg_skp]; exact fun z => z rfl)]
      rw [tkp_skp] at hB
      have h3 := nsg_p q (by decide)
      have frB : fr rFr I B := fr_tr a2 hB.2
      refine ⟨⟨by trivial, mj_isk_mk _ _⟩, t, τ, skp t τ p + 1, n, ⟨by omega, by rw [hv, jn_succ], TC_c hT (rc_fr frB), hB.1, h3, by rw [r24 frB]; exact h24, by omega⟩, fun C hC => ?_⟩
      obtain ⟨c1, c2, c3⟩ := hC
      have frC : fr cFr I C := fr_tr (rc_fr frB) c1
      have eA : atW t τ w p = pgo (smW t τ (w + 1) (skp t τ p + 1)) (fun p1 xs => if nsg t τ p1 = 93 then .ok (skp t τ p1 + 1, xs) else .error (skp t τ p1)) := by unfold atW atP; rw [if_pos q, lvl_lt qw]
      by_cases z : okB (smW t τ (w + 1) (skp t τ p + 1)) = 0
      · rw [if_pos z]
        obtain ⟨e, he⟩ := okB_e0 z
        exact out_E h (by rw [eA, pgo_e he]) frC (c2 e he)
      · rw [if_neg z]
        obtain ⟨y, hy⟩ := okB_n0 z
        obtain ⟨d1, d2⟩ := c3 y hy
        have yb := (pOk_smW (τ := τ) (w := w + 1) (skp t τ p + 1) h3).2 y hy
        rw [r25 frB] at d2
        refine ⟨⟨by trivial, mj_isk_mk _ _⟩, t, τ, y.1, ⟨TC_c hT frC, d1, yb.2.1⟩, fun E hE => ?_⟩
        by_cases u : nsg t τ y.1 = 93
        · rw [if_neg (by rw [b2i_e0]; exact fun z => z u)]
          exact out_O h (q := (skp t τ y.1 + 1, y.2)) (by rw [eA, pgo_o hy, if_pos u]) (fr_tr frC (rc_fr hE.2)) (by rw [hE.1, tkp_y u]) (Cd_mk d2 hE.2)
        · rw [if_pos (by rw [b2i_e0]; exact u)]
          exact out_E h (e := skp t τ y.1) (by rw [eA, pgo_o hy, if_neg u]) (fr_tr frC (rc_fr hE.2)) (by rw [hE.1, tkp_n u])
    · rw [if_neg (show ¬ v < 6 by rw [hv, show (6 : Int32) = nI 6 from rfl, jn_lt (by omega) (by omega)]; exact qw)]
      exact out_E h (e := skp t τ p) (by unfold atW atP; rw [if_pos q, lvl_6 qw]) (rc_fr a2) a1
  · rw [if_neg q]
    refine ⟨⟨by trivial, mj_isk_mk _ _⟩, sg_b hT.1, ?_⟩
    by_cases z : ltr (nsg t τ p) = -1
    · rw [if_pos (by rw [z]; decide)]
      refine ⟨⟨by trivial, mj_isk_mk _ _⟩, 4, rfl, t, τ, skp t τ p, ⟨TA, a1, k1, by decide⟩, fun B hB => ?_⟩
      have eA : atW t τ w p = ngo (numR t τ 4 (skp t τ p)) (fun p1 v => .ok (p1, [nI v])) := by unfold atW atP; rw [if_neg q, if_pos z]
      have nb := pOk_num (τ := τ) k1
      have frB : fr rFr I B := fr_tr a2 hB.2
      cases hn4 : numR t τ 4 (skp t τ p) with
      | error e =>
        rw [hn4] at hB eA
        rw [if_pos (show numV (.error e) = -1 from rfl)]
        exact out_E h eA (rc_fr frB) hB.1
      | ok y =>
        rw [hn4] at hB eA
        obtain ⟨b1, b2, b3⟩ := nb.2 y hn4
        rw [if_neg (show ¬ numV (.ok y) = -1 from nI_mm (by omega))]
        refine ⟨⟨by trivial, mj_isk_mk _ _⟩, n, ⟨by rw [r24 frB]; exact h24, by omega⟩, fun C hC => ?_⟩
        subst hC
        refine out_O h (q := (y.1, [nI y.2])) eA (fr_ui (fr_ui (rc_fr frB) (Or.inr (Or.inr rfl))) (Or.inr (Or.inl ⟨rfl, rfl⟩))) (by rw [ui_c (by decide), ui_c (by decide)]; exact hB.1) ?_
        have c0 := Cd_0 (I := B) (n := n) (by rw [r24 frB]; exact h24)
        rw [r25 frB] at c0
        exact Cd_up c0 rfl rfl
    · rw [if_neg (ltr_n z), s10000]
      have h3 : skp t τ p < t := nsg_p rfl (fun w => z (by rw [w]; decide))
      refine ⟨⟨by trivial, mj_isk_mk _ _⟩, n, ⟨by rw [r24 a2]; exact h24, by omega⟩, fun B hB => ?_⟩
      subst hB
      have frB : fr cFr I (mj_ui (mj_ui A 25 n (10000 + ltr (nsg t τ p))) 24 2 (nI (n + 1))) := fr_ui (fr_ui (rc_fr a2) (Or.inr (Or.inr rfl))) (Or.inr (Or.inl ⟨rfl, rfl⟩))
      have cB : Cd (mj_ui (mj_ui A 25 n (10000 + ltr (nsg t τ p))) 24 2 (nI (n + 1))) n [10000 + ltr (nsg t τ p)] (I 25) := by
        have c0 := Cd_0 (I := A) (n := n) (by rw [r24 a2]; exact h24)
        rw [r25 a2] at c0
        exact Cd_up c0 rfl rfl
      have b1 : mj_ui (mj_ui A 25 n (10000 + ltr (nsg t τ p))) 24 2 (nI (n + 1)) 1 2 = nI (skp t τ p) := by rw [ui_c (by decide), ui_c (by decide)]; exact a1
      generalize mj_ui (mj_ui A 25 n (10000 + ltr (nsg t τ p))) 24 2 (nI (n + 1)) = B at frB cB b1 ⊢
      refine ⟨⟨by trivial, mj_isk_mk _ _⟩, t, τ, skp t τ p, ⟨TC_c hT frB, b1, k1⟩, fun C hC => ?_⟩
      rw [tkp_skp] at hC
      refine b2i_gd ?_
      rw [b2i_1 (show nsg t τ (skp t τ p) = nsg t τ p from nsg_skp)]
      exact out_O h (q := (skp t τ p + 1, [10000 + ltr (nsg t τ p)])) (by unfold atW atP; rw [if_neg q, if_neg z]) (fr_tr frB (rc_fr hC.2)) hC.1 (Cd_mk cB hC.2)
theorem sdX7_readAtom {w : Nat} (hcs : mj_Cs mX7_readAtom (7 + 3 * (7 - w) + 0) (csX7_readAtom w)) : mj_Sd mX7_readAtom (7 + 3 * (7 - w) + 0) (tX7_readAtom w) := by
  intro Ω l d hd as M Φ h
  unfold tX7_readAtom at h
  split at h
  · rename_i z_this v
    obtain ⟨⟨rfl, hM⟩, t, τ, p, n, hp, h⟩ := h
    rw [mj_isk_of hM]
    exact mnX7_readAtom hcs hd v t τ p n _ _ hp (by
      rw [mj_isk_of hM] at h
      exact h)
  · exact h.elim
def csX7_readTerm (w : Nat) : List (Nat × Nat × Nat × mj_PT) := [(37, 0, 2, mj_rcv 8 tX8_take), (41, 0, 1, mj_rcv 8 tX8_nextSign), (59, 0, 2, mj_rcv 7 tX7_emitS), (72, 0, 2, mj_rcv 7 (tX7_readAtom w))]
theorem csX7_readTerm_ok {w : Nat} (hw : w ≤ 6) (h_X7_readAtom : mj_Sd mX7_readAtom (7 + 3 * (7 - w) + 0) (tX7_readAtom w)) : mj_Cs mX7_readTerm (7 + 3 * (7 - w) + 1) (csX7_readTerm w) := (mj_CsV (D' := 2) (ci := 8) (q := (RX8, TX8, 3)) sdX8_take (by omega) fX8_take rfl rfl iX8_take vX8_take (by decide +kernel) l7_37 (mj_CsV (D' := 1) (ci := 8) (q := (RX8, TX8, 3)) sdX8_nextSign (by omega) fX8_nextSign rfl rfl iX8_nextSign vX8_nextSign (by decide +kernel) l7_41 (mj_CsV (D' := 1) (ci := 7) (q := (RX7, TX7, 3)) sdX7_emitS (by omega) fX7_emit rfl rfl iX7_emit vX7_emit (by decide +kernel) l7_59 (mj_CsV (D' := (7 + 3 * (7 - w) + 0)) (ci := 7) (q := (RX7, TX7, 3)) h_X7_readAtom (by omega) fX7_readAtom rfl rfl iX7_readAtom vX7_readAtom (by decide +kernel) l7_72 mj_Cs0))))
def cutX7_readTerm : List (Nat × List Bool) := [(12, [true, true, true, false]), (42, [true, true, true, true])]
set_option maxRecDepth 100000 in
set_option maxHeartbeats 4000000 in
theorem inX7_readTerm {w : Nat} (hcs : mj_Cs mX7_readTerm (7 + 3 * (7 - w) + 1) (csX7_readTerm w)) {Ω : mj_Om} {l : Launch} {d : Nat} {Φ : Option Value → mj_M → Prop} (hd : (7 + 3 * (7 - w) + 1) ≤ d) (v : Int32) (I : Nat → Nat → Int32) (J : Nat → Nat → Int64)
    (h : (((24 = 24 ∧ mj_isk (mk I J)) ∧ (∃ t1187 : Nat, (∃ τ1188 : Nat → Int32, (∃ p1189 : Nat, (∃ n1190 : Nat, ((w ≤ 6 ∧ v = nI w ∧ prC I t1187 τ1188 p1189 n1190) ∧ (∀ I1191 : Nat → Nat → Int32, (wrC (atW t1187 τ1188 w p1189) n1190 I I1191) → (if (okB (atW t1187 τ1188 w p1189)) = (0 : Int32) then (Φ (some (.int (0 : Int32))) (mk I1191 J)) else (mj_G Ω l false mX7_readTerm d 0 0 Φ 0 0 12 ([some (.ref 24), some (.int v), some (.int (0 : Int32)), none], [], (mk I1191 J))))))))))))) :
    mj_Met Ω l false mX7_readTerm d 0 0 [.ref 24, .int v] (mk I J) Φ := mj_entry (by decide) rfl (fun h => (by cases h)) (Nat.le_of_ble_eq_true rfl) (mj_blk (μ := mX7_readTerm) (P := pX7_readTerm) (cut := cutX7_readTerm) (cs := csX7_readTerm w) dX7_readTerm hcs hd 46 0 _ h)
set_option maxRecDepth 100000 in
set_option maxHeartbeats 4000000 in
theorem bX7_readTerm_12 {w : Nat} (hcs : mj_Cs mX7_readTerm (7 + 3 * (7 - w) + 1) (csX7_readTerm w)) {Ω : mj_Om} {l : Launch} {d : Nat} {Φ : Option Value → mj_M → Prop} (hd : (7 + 3 * (7 - w) + 1) ≤ d) (x1 : Int32) (x2 : Int32) (I : Nat → Nat → Int32) (J : Nat → Nat → Int64)
    (h : ((if x2 < (240 : Int32) then ((1 = 1 ∧ mj_isk (mk I J)) ∧ (∃ t1192 : Nat, (∃ τ1193 : Nat → Int32, (∃ p1194 : Nat, ((TC I t1192 τ1193 ∧ I 1 2 = nI p1194 ∧ p1194 ≤ t1192) ∧ (∀ I1195 : Nat → Nat → Int32, (I1195 1 2 = nI (skp t1192 τ1193 p1194) ∧ fr rFr I I1195) → (if (nsg t1192 τ1193 p1194) = (42 : Int32) then (mj_G Ω l false mX7_readTerm d 0 0 Φ 0 0 42 ([some (.ref 24), some (.int x1), some (.int x2), some (.int (nsg t1192 τ1193 p1194))], [], (mk I1195 J))) else (if (nsg t1192 τ1193 p1194) = (47 : Int32) then (mj_G Ω l false mX7_readTerm d 0 0 Φ 0 0 42 ([some (.ref 24), some (.int x1), some (.int x2), some (.int (nsg t1192 τ1193 p1194))], [], (mk I1195 J))) else (Φ (some (.int (1 : Int32))) (mk I1195 J)))))))))) else (Φ (some (.int (1 : Int32))) (mk I J))))) :
    mj_G Ω l false mX7_readTerm d 0 0 Φ 0 0 12 ([some (.ref 24), some (.int x1), some (.int x2), none], [], mk I J) := mj_blk (μ := mX7_readTerm) (P := pX7_readTerm) (cut := cutX7_readTerm) (cs := csX7_readTerm w) dX7_readTerm hcs hd 46 12 _ h
set_option maxRecDepth 100000 in
set_option maxHeartbeats 4000000 in
theorem bX7_readTerm_42 {w : Nat} (hcs : mj_Cs mX7_readTerm (7 + 3 * (7 - w) + 1) (csX7_readTerm w)) {Ω : mj_Om} {l : Launch} {d : Nat} {Φ : Option Value → mj_M → Prop} (hd : (7 + 3 * (7 - w) + 1) ≤ d) (x1 : Int32) (x2 : Int32) (x3 : Int32) (I : Nat → Nat → Int32) (J : Nat → Nat → Int64)
    (h : (((1 = 1 ∧ mj_isk (mk I J)) ∧ (∃ t1197 : Nat, (∃ τ1198 : Nat → Int32, (∃ p1199 : Nat, ((TC I t1197 τ1198 ∧ I 1 2 = nI p1199 ∧ p1199 ≤ t1197) ∧ (∀ I1200 : Nat → Nat → Int32, (I1200 1 2 = nI (tkp t1197 τ1198 p1199 x3) ∧ fr rFr I I1200) → (if (b2i (nsg t1197 τ1198 p1199 = x3)) = (0 : Int32) then (Φ (some (.int (0 : Int32))) (mk I1200 J)) else ((24 = 24 ∧ mj_isk (mk I1200 J)) ∧ (∃ t1202 : Nat, (∃ τ1203 : Nat → Int32, (∃ p1204 : Nat, (∃ n1205 : Nat, ((w ≤ 6 ∧ x1 = nI w ∧ prC I1200 t1202 τ1203 p1204 n1205) ∧ (∀ I1206 : Nat → Nat → Int32, (wrC (atW t1202 τ1203 w p1204) n1205 I1200 I1206) → (if (okB (atW t1202 τ1203 w p1204)) = (0 : Int32) then (Φ (some (.int (0 : Int32))) (mk I1206 J)) else (if x3 = (42 : Int32) then ((24 = 24 ∧ mj_isk (mk I1206 J)) ∧ (∃ n1207 : Nat, ((I1206 24 2 = nI n1207 ∧ n1207 < 240) ∧ (∀ I1208 : Nat → Nat → Int32, (I1208 = mj_ui (mj_ui I1206 25 n1207 ((Int16.ofInt 20002).toInt32)) 24 2 (nI (n1207 + 1))) → (mj_G Ω l false mX7_readTerm d 0 0 Φ 0 0 12 ([some (.ref 24), some (.int x1), some (.int (x2 + (1 : Int32))), none], [], (mk I1208 J))))))) else ((24 = 24 ∧ mj_isk (mk I1206 J)) ∧ (∃ n1210 : Nat, ((I1206 24 2 = nI n1210 ∧ n1210 < 240) ∧ (∀ I1211 : Nat → Nat → Int32, (I1211 = mj_ui (mj_ui I1206 25 n1210 ((Int16.ofInt 20003).toInt32)) 24 2 (nI (n1210 + 1))) → (mj_G Ω l false mX7_readTerm d 0 0 Φ 0 0 12 ([some (.ref 24), some (.int x1), some (.int (x2 + (1 : Int32))), none], [], (mk I1211 J))))))))))))))))))))))))) :
    mj_G Ω l false mX7_readTerm d 0 0 Φ 0 0 42 ([some (.ref 24), some (.int x1), some (.int x2), some (.int x3)], [], mk I J) := mj_blk (μ := mX7_readTerm) (P := pX7_readTerm) (cut := cutX7_readTerm) (cs := csX7_readTerm w) dX7_readTerm hcs hd 46 42 _ h
set_option maxHeartbeats 8000000 in
theorem mnX7_readTerm {w : Nat} (hcs : mj_Cs mX7_readTerm (7 + 3 * (7 - w) + 1) (csX7_readTerm w)) {Ω : mj_Om} {l : Launch} {d : Nat} {Φ : Option Value → mj_M → Prop} (hd : (7 + 3 * (7 - w) + 1) ≤ d) (v : Int32) (t : Nat) (τ : Nat → Int32) (p : Nat) (n : Nat) (I : Nat → Nat → Int32) (J : Nat → Nat → Int64) (hp : w ≤ 6 ∧ v = nI w ∧ prC I t τ p n) (h : ∀ I1 : Nat → Nat → Int32, (wrC (tmW t τ w p) n I I1) → Φ (some (.int (okB (tmW t τ w p)))) (mk I1 J)) : mj_Met Ω l false mX7_readTerm d 0 0 [.ref 24, .int v] (mk I J) Φ := by
  refine inX7_readTerm hcs hd v I J ?_
  obtain ⟨hw, hv, hT, h1, hpt, h24, hn⟩ := hp
  have ht := hT.1.1
  refine ⟨⟨by trivial, mj_isk_mk _ _⟩, t, τ, p, n, ⟨hw, hv, hT, h1, hpt, h24, hn⟩, fun A hA => ?_⟩
  obtain ⟨a1, a2, a3⟩ := hA
  by_cases z : okB (atW t τ w p) = 0
  · rw [if_pos z]
    obtain ⟨e, he⟩ := okB_e0 z
    exact out_E h (by unfold tmW gnQ; exact pgo_e he) a1 (a2 e he)
  rw [if_neg z]
  obtain ⟨y, hy⟩ := okB_n0 z
  obtain ⟨d1, d2⟩ := a3 y hy
  have yb := (pOk_atW (τ := τ) (w := w) p hpt).2 y hy
  have eT : tmW t τ w p = lpP t τ opT (atW t τ w) (t + 1 - y.1) y.1 y.2 := by unfold tmW gnQ; exact pgo_o hy
  have key : ∀ (f i q : Nat) (xs : List Int32) (B : Nat → Nat → Int32), t + 1 ≤ q + f → i + 1 ≤ q → q ≤ t → n + xs.length ≤ q → B 1 2 = nI q → Cd B n xs (I 25) → fr cFr I B → tmW t τ w p = lpP t τ opT (atW t τ w) f q xs → mj_G Ω l false mX7_readTerm d 0 0 Φ 0 0 12 ([some (.ref 24), some (.int v), some (.int (nI i)), none], [], mk B J) := by
    intro f
    induction f with
    | zero => intro i q xs B hf hi hq hl b1 bC bF he; omega
    | succ f ih =>
      intro i q xs B hf hi hq hl b1 bC bF he
      have k1 := skp_le (τ := τ) hq
      have k2 := skp_ge (t := t) (τ := τ) (p := q)
      rw [lpP] at he
      refine bX7_readTerm_12 hcs hd v (nI i) B J ?_
      rw [if_pos (show nI i < 240 by rw [show (240 : Int32) = nI 240 from rfl, jn_lt (by omega) (by omega)]; omega)]
      refine ⟨⟨by trivial, mj_isk_mk _ _⟩, t, τ, q, ⟨TC_c hT bF, b1, hq⟩, fun C hC => ?_⟩
      have frC : fr cFr I C := fr_tr bF (rc_fr hC.2)
      have CC := Cd_mk bC hC.2
      have go : ¬ opT (nsg t τ q) = 0 → mj_G Ω l false mX7_readTerm d 0 0 Φ 0 0 42 ([some (.ref 24), some (.int v), some (.int (nI i)), some (.int (nsg t τ q))], [], mk C J) := by
        intro z
        rw [if_neg z] at he
        have h3 : skp t τ q < t := nsg_p rfl (fun w => z (by rw [w]; decide))
        refine bX7_readTerm_42 hcs hd v (nI i) (nsg t τ q) C J ?_
        refine ⟨⟨by trivial, mj_isk_mk _ _⟩, t, τ, skp t τ q, ⟨TC_c hT frC, hC.1, by omega⟩, fun D hD => ?_⟩
        rw [if_neg (by rw [b2i_e0, nsg_skp]; exact fun u => u rfl)]
        rw [tkp_skp] at hD
        have frD : fr cFr I D := fr_tr frC (rc_fr hD.2)
        have CD := Cd_mk CC hD.2
        refine ⟨⟨by trivial, mj_isk_mk _ _⟩, t, τ, skp t τ q + 1, n + xs.length, ⟨hw, hv, TC_c hT frD, hD.1, h3, CD.1, by omega⟩, fun E hE => ?_⟩
        obtain ⟨e1, e2, e3⟩ := hE
        have frE : fr cFr I E := fr_tr frD e1
        by_cases u : okB (atW t τ w (skp t τ q + 1)) = 0
        · rw [if_pos u]
          obtain ⟨x, hx⟩ := okB_e0 u
          exact out_E h (by rw [he]; exact pgo_e hx) frE (e2 x hx)
        rw [if_neg u]
        obtain ⟨r, hr⟩ := okB_n0 u
        obtain ⟨g1, g2⟩ := e3 r hr
        have rb := (pOk_atW (τ := τ) (w := w) (skp t τ q + 1) h3).2 r hr
        rw [pgo_o hr] at he
        have CE := Cd_app CD g2
        have em : ∀ x : Int32, x = opT (nsg t τ q) → mj_G Ω l false mX7_readTerm d 0 0 Φ 0 0 12 ([some (.ref 24), some (.int v), some (.int (nI (i + 1))), none], [], mk (mj_ui (mj_ui E 25 (n + xs.length + r.2.length) x) 24 2 (nI (n + xs.length + r.2.length + 1))) J) := fun x hx => by
          refine ih (i + 1) r.1 (xs ++ r.2 ++ [x]) _ (by omega) (by omega) rb.2.1 (by rw [List.length_append, List.length_append, List.length_singleton]; omega) (by rw [ui_c (by decide), ui_c (by decide)]; exact g1) (Cd_up CE (by rw [List.length_append]; omega) rfl) (fr_ui (fr_ui frE (Or.inr (Or.inr rfl))) (Or.inr (Or.inl ⟨rfl, rfl⟩))) (by rw [hx]; exact he)
        rw [jn_succ]
        by_cases s1 : nsg t τ q = 42
        · rw [if_pos s1]
          refine ⟨⟨by trivial, mj_isk_mk _ _⟩, n + xs.length + r.2.length, ⟨g2.1, by omega⟩, fun K hK => ?_⟩
          subst hK
          exact em _ (by rw [s1]; decide)
        · rw [if_neg s1]
          have s2 : nsg t τ q = 47 := Classical.byContradiction (fun y => z (by unfold opT; rw [if_neg s1, if_neg y]))
          refine ⟨⟨by trivial, mj_isk_mk _ _⟩, n + xs.length + r.2.length, ⟨g2.1, by omega⟩, fun K hK => ?_⟩
          subst hK
          exact em _ (by rw [s2]; decide)
      by_cases s1 : nsg t τ q = 42
      · rw [if_pos s1]; exact go (by rw [s1]; decide)
      rw [if_neg s1]
      by_cases s2 : nsg t τ q = 47
      · rw [if_pos s2]; exact go (by rw [s2]; decide)
      rw [if_neg s2]
      exact out_O h (q := (skp t τ q, xs)) (by rw [he, if_pos (by unfold opT; rw [if_neg s1, if_neg s2])]) frC hC.1 CC
  exact key (t + 1 - y.1) 0 y.1 y.2 A (by omega) (by omega) yb.2.1 (by omega) d1 d2 a1 eT
theorem sdX7_readTerm {w : Nat} (hcs : mj_Cs mX7_readTerm (7 + 3 * (7 - w) + 1) (csX7_readTerm w)) : mj_Sd mX7_readTerm (7 + 3 * (7 - w) + 1) (tX7_readTerm w) := by
  intro Ω l d hd as M Φ h
  unfold tX7_readTerm at h
  split at h
  · rename_i z_this v
    obtain ⟨⟨rfl, hM⟩, t, τ, p, n, hp, h⟩ := h
    rw [mj_isk_of hM]
    exact mnX7_readTerm hcs hd v t τ p n _ _ hp (by
      rw [mj_isk_of hM] at h
      exact h)
  · exact h.elim
def csX7_readSum (w : Nat) : List (Nat × Nat × Nat × mj_PT) := [(37, 0, 2, mj_rcv 8 tX8_take), (41, 0, 1, mj_rcv 8 tX8_nextSign), (59, 0, 2, mj_rcv 7 tX7_emitS), (69, 0, 2, mj_rcv 7 (tX7_readTerm w))]
theorem csX7_readSum_ok {w : Nat} (hw : w ≤ 6) (h_X7_readTerm : mj_Sd mX7_readTerm (7 + 3 * (7 - w) + 1) (tX7_readTerm w)) : mj_Cs mX7_readSum (7 + 3 * (7 - w) + 2) (csX7_readSum w) := (mj_CsV (D' := 2) (ci := 8) (q := (RX8, TX8, 3)) sdX8_take (by omega) fX8_take rfl rfl iX8_take vX8_take (by decide +kernel) l7_37 (mj_CsV (D' := 1) (ci := 8) (q := (RX8, TX8, 3)) sdX8_nextSign (by omega) fX8_nextSign rfl rfl iX8_nextSign vX8_nextSign (by decide +kernel) l7_41 (mj_CsV (D' := 1) (ci := 7) (q := (RX7, TX7, 3)) sdX7_emitS (by omega) fX7_emit rfl rfl iX7_emit vX7_emit (by decide +kernel) l7_59 (mj_CsV (D' := (7 + 3 * (7 - w) + 1)) (ci := 7) (q := (RX7, TX7, 3)) h_X7_readTerm (by omega) fX7_readTerm rfl rfl iX7_readTerm vX7_readTerm (by decide +kernel) l7_69 mj_Cs0))))
def cutX7_readSum : List (Nat × List Bool) := [(12, [true, true, true, false]), (42, [true, true, true, true])]
set_option maxRecDepth 100000 in
set_option maxHeartbeats 4000000 in
theorem inX7_readSum {w : Nat} (hcs : mj_Cs mX7_readSum (7 + 3 * (7 - w) + 2) (csX7_readSum w)) {Ω : mj_Om} {l : Launch} {d : Nat} {Φ : Option Value → mj_M → Prop} (hd : (7 + 3 * (7 - w) + 2) ≤ d) (v : Int32) (I : Nat → Nat → Int32) (J : Nat → Nat → Int64)
    (h : (((24 = 24 ∧ mj_isk (mk I J)) ∧ (∃ t1239 : Nat, (∃ τ1240 : Nat → Int32, (∃ p1241 : Nat, (∃ n1242 : Nat, ((w ≤ 6 ∧ v = nI w ∧ prC I t1239 τ1240 p1241 n1242) ∧ (∀ I1243 : Nat → Nat → Int32, (wrC (tmW t1239 τ1240 w p1241) n1242 I I1243) → (if (okB (tmW t1239 τ1240 w p1241)) = (0 : Int32) then (Φ (some (.int (0 : Int32))) (mk I1243 J)) else (mj_G Ω l false mX7_readSum d 0 0 Φ 0 0 12 ([some (.ref 24), some (.int v), some (.int (0 : Int32)), none], [], (mk I1243 J))))))))))))) :
    mj_Met Ω l false mX7_readSum d 0 0 [.ref 24, .int v] (mk I J) Φ := mj_entry (by decide) rfl (fun h => (by cases h)) (Nat.le_of_ble_eq_true rfl) (mj_blk (μ := mX7_readSum) (P := pX7_readSum) (cut := cutX7_readSum) (cs := csX7_readSum w) dX7_readSum hcs hd 46 0 _ h)
set_option maxRecDepth 100000 in
set_option maxHeartbeats 4000000 in
theorem bX7_readSum_12 {w : Nat} (hcs : mj_Cs mX7_readSum (7 + 3 * (7 - w) + 2) (csX7_readSum w)) {Ω : mj_Om} {l : Launch} {d : Nat} {Φ : Option Value → mj_M → Prop} (hd : (7 + 3 * (7 - w) + 2) ≤ d) (x1 : Int32) (x2 : Int32) (I : Nat → Nat → Int32) (J : Nat → Nat → Int64)
    (h : ((if x2 < (240 : Int32) then ((1 = 1 ∧ mj_isk (mk I J)) ∧ (∃ t1244 : Nat, (∃ τ1245 : Nat → Int32, (∃ p1246 : Nat, ((TC I t1244 τ1245 ∧ I 1 2 = nI p1246 ∧ p1246 ≤ t1244) ∧ (∀ I1247 : Nat → Nat → Int32, (I1247 1 2 = nI (skp t1244 τ1245 p1246) ∧ fr rFr I I1247) → (if (nsg t1244 τ1245 p1246) = (43 : Int32) then (mj_G Ω l false mX7_readSum d 0 0 Φ 0 0 42 ([some (.ref 24), some (.int x1), some (.int x2), some (.int (nsg t1244 τ1245 p1246))], [], (mk I1247 J))) else (if (nsg t1244 τ1245 p1246) = (45 : Int32) then (mj_G Ω l false mX7_readSum d 0 0 Φ 0 0 42 ([some (.ref 24), some (.int x1), some (.int x2), some (.int (nsg t1244 τ1245 p1246))], [], (mk I1247 J))) else (Φ (some (.int (1 : Int32))) (mk I1247 J)))))))))) else (Φ (some (.int (1 : Int32))) (mk I J))))) :
    mj_G Ω l false mX7_readSum d 0 0 Φ 0 0 12 ([some (.ref 24), some (.int x1), some (.int x2), none], [], mk I J) := mj_blk (μ := mX7_readSum) (P := pX7_readSum) (cut := cutX7_readSum) (cs := csX7_readSum w) dX7_readSum hcs hd 46 12 _ h
set_option maxRecDepth 100000 in
set_option maxHeartbeats 4000000 in
theorem bX7_readSum_42 {w : Nat} (hcs : mj_Cs mX7_readSum (7 + 3 * (7 - w) + 2) (csX7_readSum w)) {Ω : mj_Om} {l : Launch} {d : Nat} {Φ : Option Value → mj_M → Prop} (hd : (7 + 3 * (7 - w) + 2) ≤ d) (x1 : Int32) (x2 : Int32) (x3 : Int32) (I : Nat → Nat → Int32) (J : Nat → Nat → Int64)
    (h : (((1 = 1 ∧ mj_isk (mk I J)) ∧ (∃ t1249 : Nat, (∃ τ1250 : Nat → Int32, (∃ p1251 : Nat, ((TC I t1249 τ1250 ∧ I 1 2 = nI p1251 ∧ p1251 ≤ t1249) ∧ (∀ I1252 : Nat → Nat → Int32, (I1252 1 2 = nI (tkp t1249 τ1250 p1251 x3) ∧ fr rFr I I1252) → (if (b2i (nsg t1249 τ1250 p1251 = x3)) = (0 : Int32) then (Φ (some (.int (0 : Int32))) (mk I1252 J)) else ((24 = 24 ∧ mj_isk (mk I1252 J)) ∧ (∃ t1254 : Nat, (∃ τ1255 : Nat → Int32, (∃ p1256 : Nat, (∃ n1257 : Nat, ((w ≤ 6 ∧ x1 = nI w ∧ prC I1252 t1254 τ1255 p1256 n1257) ∧ (∀ I1258 : Nat → Nat → Int32, (wrC (tmW t1254 τ1255 w p1256) n1257 I1252 I1258) → (if (okB (tmW t1254 τ1255 w p1256)) = (0 : Int32) then (Φ (some (.int (0 : Int32))) (mk I1258 J)) else (if x3 = (43 : Int32) then ((24 = 24 ∧ mj_isk (mk I1258 J)) ∧ (∃ n1259 : Nat, ((I1258 24 2 = nI n1259 ∧ n1259 < 240) ∧ (∀ I1260 : Nat → Nat → Int32, (I1260 = mj_ui (mj_ui I1258 25 n1259 ((Int16.ofInt 20000).toInt32)) 24 2 (nI (n1259 + 1))) → (mj_G Ω l false mX7_readSum d 0 0 Φ 0 0 12 ([some (.ref 24), some (.int x1), some (.int (x2 + (1 : Int32))), none], [], (mk I1260 J))))))) else ((24 = 24 ∧ mj_isk (mk I1258 J)) ∧ (∃ n1262 : Nat, ((I1258 24 2 = nI n1262 ∧ n1262 < 240) ∧ (∀ I1263 : Nat → Nat → Int32, (I1263 = mj_ui (mj_ui I1258 25 n1262 ((Int16.ofInt 20001).toInt32)) 24 2 (nI (n1262 + 1))) → (mj_G Ω l false mX7_readSum d 0 0 Φ 0 0 12 ([some (.ref 24), some (.int x1), some (.int (x2 + (1 : Int32))), none], [], (mk I1263 J))))))))))))))))))))))))) :
    mj_G Ω l false mX7_readSum d 0 0 Φ 0 0 42 ([some (.ref 24), some (.int x1), some (.int x2), some (.int x3)], [], mk I J) := mj_blk (μ := mX7_readSum) (P := pX7_readSum) (cut := cutX7_readSum) (cs := csX7_readSum w) dX7_readSum hcs hd 46 42 _ h
set_option maxHeartbeats 8000000 in
theorem mnX7_readSum {w : Nat} (hcs : mj_Cs mX7_readSum (7 + 3 * (7 - w) + 2) (csX7_readSum w)) {Ω : mj_Om} {l : Launch} {d : Nat} {Φ : Option Value → mj_M → Prop} (hd : (7 + 3 * (7 - w) + 2) ≤ d) (v : Int32) (t : Nat) (τ : Nat → Int32) (p : Nat) (n : Nat) (I : Nat → Nat → Int32) (J : Nat → Nat → Int64) (hp : w ≤ 6 ∧ v = nI w ∧ prC I t τ p n) (h : ∀ I1 : Nat → Nat → Int32, (wrC (smW t τ w p) n I I1) → Φ (some (.int (okB (smW t τ w p)))) (mk I1 J)) : mj_Met Ω l false mX7_readSum d 0 0 [.ref 24, .int v] (mk I J) Φ := by
  refine inX7_readSum hcs hd v I J ?_
  obtain ⟨hw, hv, hT, h1, hpt, h24, hn⟩ := hp
  have ht := hT.1.1
  refine ⟨⟨by trivial, mj_isk_mk _ _⟩, t, τ, p, n, ⟨hw, hv, hT, h1, hpt, h24, hn⟩, fun A hA => ?_⟩
  obtain ⟨a1, a2, a3⟩ := hA
  by_cases z : okB (tmW t τ w p) = 0
  · rw [if_pos z]
    obtain ⟨e, he⟩ := okB_e0 z
    exact out_E h (by unfold smW gnQ; exact pgo_e he) a1 (a2 e he)
  rw [if_neg z]
  obtain ⟨y, hy⟩ := okB_n0 z
  obtain ⟨d1, d2⟩ := a3 y hy
  have yb := (pOk_tmW (τ := τ) (w := w) p hpt).2 y hy
  have eT : smW t τ w p = lpP t τ opS (tmW t τ w) (t + 1 - y.1) y.1 y.2 := by unfold smW gnQ; exact pgo_o hy
  have key : ∀ (f i q : Nat) (xs : List Int32) (B : Nat → Nat → Int32), t + 1 ≤ q + f → i + 1 ≤ q → q ≤ t → n + xs.length ≤ q → B 1 2 = nI q → Cd B n xs (I 25) → fr cFr I B → smW t τ w p = lpP t τ opS (tmW t τ w) f q xs → mj_G Ω l false mX7_readSum d 0 0 Φ 0 0 12 ([some (.ref 24), some (.int v), some (.int (nI i)), none], [], mk B J) := by
    intro f
    induction f with
    | zero => intro i q xs B hf hi hq hl b1 bC bF he; omega
    | succ f ih =>
      intro i q xs B hf hi hq hl b1 bC bF he
      have k1 := skp_le (τ := τ) hq
      have k2 := skp_ge (t := t) (τ := τ) (p := q)
      rw [lpP] at he
      refine bX7_readSum_12 hcs hd v (nI i) B J ?_
      rw [if_pos (show nI i < 240 by rw [show (240 : Int32) = nI 240 from rfl, jn_lt (by omega) (by omega)]; omega)]
      refine ⟨⟨by trivial, mj_isk_mk _ _⟩, t, τ, q, ⟨TC_c hT bF, b1, hq⟩, fun C hC => ?_⟩
      have frC : fr cFr I C := fr_tr bF (rc_fr hC.2)
      have CC := Cd_mk bC hC.2
      have go : ¬ opS (nsg t τ q) = 0 → mj_G Ω l false mX7_readSum d 0 0 Φ 0 0 42 ([some (.ref 24), some (.int v), some (.int (nI i)), some (.int (nsg t τ q))], [], mk C J) := by
        intro z
        rw [if_neg z] at he
        have h3 : skp t τ q < t := nsg_p rfl (fun w => z (by rw [w]; decide))
        refine bX7_readSum_42 hcs hd v (nI i) (nsg t τ q) C J ?_
        refine ⟨⟨by trivial, mj_isk_mk _ _⟩, t, τ, skp t τ q, ⟨TC_c hT frC, hC.1, by omega⟩, fun D hD => ?_⟩
        rw [if_neg (by rw [b2i_e0, nsg_skp]; exact fun u => u rfl)]
        rw [tkp_skp] at hD
        have frD : fr cFr I D := fr_tr frC (rc_fr hD.2)
        have CD := Cd_mk CC hD.2
        refine ⟨⟨by trivial, mj_isk_mk _ _⟩, t, τ, skp t τ q + 1, n + xs.length, ⟨hw, hv, TC_c hT frD, hD.1, h3, CD.1, by omega⟩, fun E hE => ?_⟩
        obtain ⟨e1, e2, e3⟩ := hE
        have frE : fr cFr I E := fr_tr frD e1
        by_cases u : okB (tmW t τ w (skp t τ q + 1)) = 0
        · rw [if_pos u]
          obtain ⟨x, hx⟩ := okB_e0 u
          exact out_E h (by rw [he]; exact pgo_e hx) frE (e2 x hx)
        rw [if_neg u]
        obtain ⟨r, hr⟩ := okB_n0 u
        obtain ⟨g1, g2⟩ := e3 r hr
        have rb := (pOk_tmW (τ := τ) (w := w) (skp t τ q + 1) h3).2 r hr
        rw [pgo_o hr] at he
        have CE := Cd_app CD g2
        have em : ∀ x : Int32, x = opS (nsg t τ q) → mj_G Ω l false mX7_readSum d 0 0 Φ 0 0 12 ([some (.ref 24), some (.int v), some (.int (nI (i + 1))), none], [], mk (mj_ui (mj_ui E 25 (n + xs.length + r.2.length) x) 24 2 (nI (n + xs.length + r.2.length + 1))) J) := fun x hx => by
          refine ih (i + 1) r.1 (xs ++ r.2 ++ [x]) _ (by omega) (by omega) rb.2.1 (by rw [List.length_append, List.length_append, List.length_singleton]; omega) (by rw [ui_c (by decide), ui_c (by decide)]; exact g1) (Cd_up CE (by rw [List.length_append]; omega) rfl) (fr_ui (fr_ui frE (Or.inr (Or.inr rfl))) (Or.inr (Or.inl ⟨rfl, rfl⟩))) (by rw [hx]; exact he)
        rw [jn_succ]
        by_cases s1 : nsg t τ q = 43
        · rw [if_pos s1]
          refine ⟨⟨by trivial, mj_isk_mk _ _⟩, n + xs.length + r.2.length, ⟨g2.1, by omega⟩, fun K hK => ?_⟩
          subst hK
          exact em _ (by rw [s1]; decide)
        · rw [if_neg s1]
          have s2 : nsg t τ q = 45 := Classical.byContradiction (fun y => z (by unfold opS; rw [if_neg s1, if_neg y]))
          refine ⟨⟨by trivial, mj_isk_mk _ _⟩, n + xs.length + r.2.length, ⟨g2.1, by omega⟩, fun K hK => ?_⟩
          subst hK
          exact em _ (by rw [s2]; decide)
      by_cases s1 : nsg t τ q = 43
      · rw [if_pos s1]; exact go (by rw [s1]; decide)
      rw [if_neg s1]
      by_cases s2 : nsg t τ q = 45
      · rw [if_pos s2]; exact go (by rw [s2]; decide)
      rw [if_neg s2]
      exact out_O h (q := (skp t τ q, xs)) (by rw [he, if_pos (by unfold opS; rw [if_neg s1, if_neg s2])]) frC hC.1 CC
  exact key (t + 1 - y.1) 0 y.1 y.2 A (by omega) (by omega) yb.2.1 (by omega) d1 d2 a1 eT
theorem sdX7_readSum {w : Nat} (hcs : mj_Cs mX7_readSum (7 + 3 * (7 - w) + 2) (csX7_readSum w)) : mj_Sd mX7_readSum (7 + 3 * (7 - w) + 2) (tX7_readSum w) := by
  intro Ω l d hd as M Φ h
  unfold tX7_readSum at h
  split at h
  · rename_i z_this v
    obtain ⟨⟨rfl, hM⟩, t, τ, p, n, hp, h⟩ := h
    rw [mj_isk_of hM]
    exact mnX7_readSum hcs hd v t τ p n _ _ hp (by
      rw [mj_isk_of hM] at h
      exact h)
  · exact h.elim
theorem sdX7_readSumA : ∀ (k w : Nat), 7 - w = k → mj_Sd mX7_readSum (7 + 3 * (7 - w) + 2) (tX7_readSum w) := by
  intro k
  induction k with
  | zero =>
    intro w hw Ω l d hd as M Φ h
    unfold tX7_readSum at h
    split at h
    · obtain ⟨-, t, τ, p, n, ⟨q, -⟩, -⟩ := h
      omega
    · exact h.elim
  | succ k ih =>
    intro w hw
    have hs := ih (w + 1) (by omega)
    exact sdX7_readSum (csX7_readSum_ok (by omega) (sdX7_readTerm (csX7_readTerm_ok (by omega) (sdX7_readAtom (csX7_readAtom_ok (by omega) hs)))))
