/-! ===== the reference's reader of waters: items (by program, wip/whole/p88.py) ===== -/
def csX12_usualS : List (Nat × Nat × Nat × mj_PT) := []
theorem csX12_usualS_ok : mj_Cs mX12_usual 1 csX12_usualS := mj_Cs0
def cutX12_usualS : List (Nat × List Bool) := []
set_option maxRecDepth 100000 in
set_option maxHeartbeats 4000000 in
theorem inX12_usualS {Ω : mj_Om} {l : Launch} {d : Nat} {Φ : Option Value → mj_M → Prop} (hd : 1 ≤ d) (a : Int32) (k : Int32) (I : Nat → Nat → Int32) (J : Nat → Nat → Int64)
    (h : ((if a = (108 : Int32) then (if k = (0 : Int32) then (Φ (some (.int (10 : Int32))) (mk I J)) else (if k = (5 : Int32) then (Φ (some (.int (20 : Int32))) (mk I J)) else (Φ (some (.int (0 : Int32))) (mk I J)))) else (if k = (1 : Int32) then (Φ (some (.int (5 : Int32))) (mk I J)) else (if k = (4 : Int32) then (Φ (some (.int (5 : Int32))) (mk I J)) else (if k = (3 : Int32) then (Φ (some (.int (2 : Int32))) (mk I J)) else (if k = (5 : Int32) then (Φ (some (.int (4 : Int32))) (mk I J)) else (Φ (some (.int (0 : Int32))) (mk I J))))))))) :
    mj_Met Ω l false mX12_usual d 0 0 [.int a, .int k] (mk I J) Φ := mj_entry (by decide) rfl (fun h => (by cases h)) (Nat.le_of_ble_eq_true rfl) (mj_blk (μ := mX12_usual) (P := pX12_usual) (cut := cutX12_usualS) (cs := csX12_usualS) dX12_usual csX12_usualS_ok hd 35 0 _ h)
def tX12_usualS : mj_PT := fun as M Φ => match as with
  | [.int a, .int k] => ((mj_isk M) ∧ Φ (some (.int (if a = 108 then usL k else usB k))) M)
  | _ => False
set_option maxHeartbeats 4000000 in
theorem mnX12_usualS {Ω : mj_Om} {l : Launch} {d : Nat} {Φ : Option Value → mj_M → Prop} (hd : 1 ≤ d) (a : Int32) (k : Int32) (I : Nat → Nat → Int32) (J : Nat → Nat → Int64) (h : Φ (some (.int (if a = 108 then usL k else usB k))) (mk I J)) : mj_Met Ω l false mX12_usual d 0 0 [.int a, .int k] (mk I J) Φ := by
  refine inX12_usualS hd a k I J ?_
  by_cases z : a = 108
  · rw [if_pos z]; rw [if_pos z] at h
    by_cases q0 : k = 0
    · rw [if_pos q0]; unfold usL at h; rw [if_pos q0] at h; exact h
    rw [if_neg q0]
    by_cases q1 : k = 5
    · rw [if_pos q1]; unfold usL at h; rw [if_neg q0, if_pos q1] at h; exact h
    rw [if_neg q1]
    unfold usL at h; rw [if_neg q0, if_neg q1] at h; exact h
  rw [if_neg z]; rw [if_neg z] at h
  by_cases q0 : k = 1
  · rw [if_pos q0]; unfold usB at h; rw [if_pos q0] at h; exact h
  rw [if_neg q0]
  by_cases q1 : k = 4
  · rw [if_pos q1]; unfold usB at h; rw [if_neg q0, if_pos q1] at h; exact h
  rw [if_neg q1]
  by_cases q2 : k = 3
  · rw [if_pos q2]; unfold usB at h; rw [if_neg q0, if_neg q1, if_pos q2] at h; exact h
  rw [if_neg q2]
  by_cases q3 : k = 5
  · rw [if_pos q3]; unfold usB at h; rw [if_neg q0, if_neg q1, if_neg q2, if_pos q3] at h; exact h
  rw [if_neg q3]
  unfold usB at h; rw [if_neg q0, if_neg q1, if_neg q2, if_neg q3] at h; exact h
theorem sdX12_usualS : mj_Sd mX12_usual 1 tX12_usualS := by
  intro Ω l d hd as M Φ h
  unfold tX12_usualS at h
  split at h
  · rename_i a k
    obtain ⟨hM, h⟩ := h
    rw [mj_isk_of hM]
    exact mnX12_usualS hd a k _ _ (by
      rw [mj_isk_of hM] at h
      exact h)
  · exact h.elim
def csX12_lowestS : List (Nat × Nat × Nat × mj_PT) := []
theorem csX12_lowestS_ok : mj_Cs mX12_lowest 1 csX12_lowestS := mj_Cs0
def cutX12_lowestS : List (Nat × List Bool) := []
set_option maxRecDepth 100000 in
set_option maxHeartbeats 4000000 in
theorem inX12_lowestS {Ω : mj_Om} {l : Launch} {d : Nat} {Φ : Option Value → mj_M → Prop} (hd : 1 ≤ d) (a : Int32) (k : Int32) (I : Nat → Nat → Int32) (J : Nat → Nat → Int64)
    (h : ((if a = (108 : Int32) then (if k = (0 : Int32) then (Φ (some (.int (2 : Int32))) (mk I J)) else (if k = (5 : Int32) then (Φ (some (.int (1 : Int32))) (mk I J)) else (Φ (some (.int (0 : Int32))) (mk I J)))) else (if k = (3 : Int32) then (Φ (some (.int (1 : Int32))) (mk I J)) else (Φ (some (.int (0 : Int32))) (mk I J)))))) :
    mj_Met Ω l false mX12_lowest d 0 0 [.int a, .int k] (mk I J) Φ := mj_entry (by decide) rfl (fun h => (by cases h)) (Nat.le_of_ble_eq_true rfl) (mj_blk (μ := mX12_lowest) (P := pX12_lowest) (cut := cutX12_lowestS) (cs := csX12_lowestS) dX12_lowest csX12_lowestS_ok hd 22 0 _ h)
def tX12_lowestS : mj_PT := fun as M Φ => match as with
  | [.int a, .int k] => ((mj_isk M) ∧ Φ (some (.int (if a = 108 then loL k else loB k))) M)
  | _ => False
set_option maxHeartbeats 4000000 in
theorem mnX12_lowestS {Ω : mj_Om} {l : Launch} {d : Nat} {Φ : Option Value → mj_M → Prop} (hd : 1 ≤ d) (a : Int32) (k : Int32) (I : Nat → Nat → Int32) (J : Nat → Nat → Int64) (h : Φ (some (.int (if a = 108 then loL k else loB k))) (mk I J)) : mj_Met Ω l false mX12_lowest d 0 0 [.int a, .int k] (mk I J) Φ := by
  refine inX12_lowestS hd a k I J ?_
  by_cases z : a = 108
  · rw [if_pos z]; rw [if_pos z] at h
    by_cases q0 : k = 0
    · rw [if_pos q0]; unfold loL at h; rw [if_pos q0] at h; exact h
    rw [if_neg q0]
    by_cases q1 : k = 5
    · rw [if_pos q1]; unfold loL at h; rw [if_neg q0, if_pos q1] at h; exact h
    rw [if_neg q1]
    unfold loL at h; rw [if_neg q0, if_neg q1] at h; exact h
  rw [if_neg z]; rw [if_neg z] at h
  by_cases q0 : k = 3
  · rw [if_pos q0]; unfold loB at h; rw [if_pos q0] at h; exact h
  rw [if_neg q0]
  unfold loB at h; rw [if_neg q0] at h; exact h
theorem sdX12_lowestS : mj_Sd mX12_lowest 1 tX12_lowestS := by
  intro Ω l d hd as M Φ h
  unfold tX12_lowestS at h
  split at h
  · rename_i a k
    obtain ⟨hM, h⟩ := h
    rw [mj_isk_of hM]
    exact mnX12_lowestS hd a k _ _ (by
      rw [mj_isk_of hM] at h
      exact h)
  · exact h.elim
def csX12_highestS : List (Nat × Nat × Nat × mj_PT) := []
theorem csX12_highestS_ok : mj_Cs mX12_highest 1 csX12_highestS := mj_Cs0
def cutX12_highestS : List (Nat × List Bool) := []
set_option maxRecDepth 100000 in
set_option maxHeartbeats 4000000 in
theorem inX12_highestS {Ω : mj_Om} {l : Launch} {d : Nat} {Φ : Option Value → mj_M → Prop} (hd : 1 ≤ d) (a : Int32) (k : Int32) (I : Nat → Nat → Int32) (J : Nat → Nat → Int64)
    (h : ((if a = (108 : Int32) then (if k = (0 : Int32) then (Φ (some (.int (20 : Int32))) (mk I J)) else (if k = (5 : Int32) then (Φ (some (.int (60 : Int32))) (mk I J)) else (if k = (2 : Int32) then (Φ (some (.int (1 : Int32))) (mk I J)) else (if k = (6 : Int32) then (Φ (some (.int (1 : Int32))) (mk I J)) else (Φ (some (.int (9 : Int32))) (mk I J)))))) else (if k = (0 : Int32) then (Φ (some (.int (19 : Int32))) (mk I J)) else (if k = (1 : Int32) then (Φ (some (.int (19 : Int32))) (mk I J)) else (if k = (4 : Int32) then (Φ (some (.int (9 : Int32))) (mk I J)) else (if k = (5 : Int32) then (Φ (some (.int (4 : Int32))) (mk I J)) else (Φ (some (.int (3 : Int32))) (mk I J))))))))) :
    mj_Met Ω l false mX12_highest d 0 0 [.int a, .int k] (mk I J) Φ := mj_entry (by decide) rfl (fun h => (by cases h)) (Nat.le_of_ble_eq_true rfl) (mj_blk (μ := mX12_highest) (P := pX12_highest) (cut := cutX12_highestS) (cs := csX12_highestS) dX12_highest csX12_highestS_ok hd 42 0 _ h)
def tX12_highestS : mj_PT := fun as M Φ => match as with
  | [.int a, .int k] => ((mj_isk M) ∧ Φ (some (.int (if a = 108 then hiL k else hiB k))) M)
  | _ => False
set_option maxHeartbeats 4000000 in
theorem mnX12_highestS {Ω : mj_Om} {l : Launch} {d : Nat} {Φ : Option Value → mj_M → Prop} (hd : 1 ≤ d) (a : Int32) (k : Int32) (I : Nat → Nat → Int32) (J : Nat → Nat → Int64) (h : Φ (some (.int (if a = 108 then hiL k else hiB k))) (mk I J)) : mj_Met Ω l false mX12_highest d 0 0 [.int a, .int k] (mk I J) Φ := by
  refine inX12_highestS hd a k I J ?_
  by_cases z : a = 108
  · rw [if_pos z]; rw [if_pos z] at h
    by_cases q0 : k = 0
    · rw [if_pos q0]; unfold hiL at h; rw [if_pos q0] at h; exact h
    rw [if_neg q0]
    by_cases q1 : k = 5
    · rw [if_pos q1]; unfold hiL at h; rw [if_neg q0, if_pos q1] at h; exact h
    rw [if_neg q1]
    by_cases q2 : k = 2
    · rw [if_pos q2]; unfold hiL at h; rw [if_neg q0, if_neg q1, if_pos q2] at h; exact h
    rw [if_neg q2]
    by_cases q3 : k = 6
    · rw [if_pos q3]; unfold hiL at h; rw [if_neg q0, if_neg q1, if_neg q2, if_pos q3] at h; exact h
    rw [if_neg q3]
    unfold hiL at h; rw [if_neg q0, if_neg q1, if_neg q2, if_neg q3] at h; exact h
  rw [if_neg z]; rw [if_neg z] at h
  by_cases q0 : k = 0
  · rw [if_pos q0]; unfold hiB at h; rw [if_pos q0] at h; exact h
  rw [if_neg q0]
  by_cases q1 : k = 1
  · rw [if_pos q1]; unfold hiB at h; rw [if_neg q0, if_pos q1] at h; exact h
  rw [if_neg q1]
  by_cases q2 : k = 4
  · rw [if_pos q2]; unfold hiB at h; rw [if_neg q0, if_neg q1, if_pos q2] at h; exact h
  rw [if_neg q2]
  by_cases q3 : k = 5
  · rw [if_pos q3]; unfold hiB at h; rw [if_neg q0, if_neg q1, if_neg q2, if_pos q3] at h; exact h
  rw [if_neg q3]
  unfold hiB at h; rw [if_neg q0, if_neg q1, if_neg q2, if_neg q3] at h; exact h
theorem sdX12_highestS : mj_Sd mX12_highest 1 tX12_highestS := by
  intro Ω l d hd as M Φ h
  unfold tX12_highestS at h
  split at h
  · rename_i a k
    obtain ⟨hM, h⟩ := h
    rw [mj_isk_of hM]
    exact mnX12_highestS hd a k _ _ (by
      rw [mj_isk_of hM] at h
      exact h)
  · exact h.elim
def csX12_itemOfS : List (Nat × Nat × Nat × mj_PT) := []
theorem csX12_itemOfS_ok : mj_Cs mX12_itemOf 1 csX12_itemOfS := mj_Cs0
def cutX12_itemOfS : List (Nat × List Bool) := []
def pX12_itemOfS_0 : List (Nat × Instr × Nat) := [(0, .iload_n 0, 1), (1, .bipush 108, 2), (3, .if_icmp .ne 76, 3), (6, .iload_n 1, 1), (7, .bipush 119, 2), (9, .if_icmp .ne 7, 3), (12, .iconst 0, 1), (13, .goto 65, 3), (16, .iload_n 1, 1), (17, .bipush 97, 2), (19, .if_icmp .ne 7, 3), (22, .iconst 1, 1), (23, .goto 55, 3), (26, .iload_n 1, 1), (27, .bipush 101, 2), (29, .if_icmp .ne 7, 3), (32, .iconst 2, 1), (33, .goto 45, 3), (36, .iload_n 1, 1), (37, .bipush 117, 2), (39, .if_icmp .ne 7, 3), (42, .iconst 3, 1), (43, .goto 35, 3), (46, .iload_n 1, 1), (47, .bipush 100, 2), (49, .if_icmp .ne 7, 3), (52, .iconst 4, 1), (53, .goto 25, 3), (56, .iload_n 1, 1), (57, .bipush 115, 2), (59, .if_icmp .ne 7, 3), (62, .iconst 5, 1), (63, .goto 15, 3), (66, .iload_n 1, 1), (67, .bipush 102, 2), (69, .if_icmp .ne 8, 3), (72, .bipush 6, 2), (74, .goto 4, 3), (77, .iconst (-1), 1), (78, .ireturn, 1), (79, .iload_n 1, 1), (80, .bipush 120, 2), (82, .if_icmp .ne 7, 3), (85, .iconst 0, 1), (86, .goto 54, 3), (89, .iload_n 1, 1), (90, .bipush 121, 2), (92, .if_icmp .ne 7, 3), (95, .iconst 1, 1), (96, .goto 44, 3), (99, .iload_n 1, 1), (100, .bipush 118, 2), (102, .if_icmp .ne 7, 3), (105, .iconst 2, 1), (106, .goto 34, 3), (109, .iload_n 1, 1), (110, .bipush 109, 2), (112, .if_icmp .ne 7, 3), (115, .iconst 3, 1), (116, .goto 24, 3), (119, .iload_n 1, 1), (120, .bipush 122, 2), (122, .if_icmp .ne 7, 3), (125, .iconst 4, 1), (126, .goto 14, 3), (129, .iload_n 1, 1), (130, .bipush 114, 2), (132, .if_icmp .ne 7, 3), (135, .iconst 5, 1), (136, .goto 4, 3), (139, .iconst (-1), 1), (140, .ireturn, 1)]
set_option maxRecDepth 100000 in
theorem dX12_itemOfS_0 : mj_pd cX12_itemOf pX12_itemOfS_0 := mj_pdB (by decide +kernel)
set_option maxRecDepth 100000 in
set_option maxHeartbeats 4000000 in
theorem inX12_itemOfS {Ω : mj_Om} {l : Launch} {d : Nat} {Φ : Option Value → mj_M → Prop} (hd : 1 ≤ d) (a : Int32) (c : Int32) (I : Nat → Nat → Int32) (J : Nat → Nat → Int64)
    (h : ((if a = (108 : Int32) then (if c = (119 : Int32) then (Φ (some (.int (0 : Int32))) (mk I J)) else (if c = (97 : Int32) then (Φ (some (.int (1 : Int32))) (mk I J)) else (if c = (101 : Int32) then (Φ (some (.int (2 : Int32))) (mk I J)) else (if c = (117 : Int32) then (Φ (some (.int (3 : Int32))) (mk I J)) else (if c = (100 : Int32) then (Φ (some (.int (4 : Int32))) (mk I J)) else (if c = (115 : Int32) then (Φ (some (.int (5 : Int32))) (mk I J)) else (if c = (102 : Int32) then (Φ (some (.int (6 : Int32))) (mk I J)) else (Φ (some (.int (-1 : Int32))) (mk I J))))))))) else (if c = (120 : Int32) then (Φ (some (.int (0 : Int32))) (mk I J)) else (if c = (121 : Int32) then (Φ (some (.int (1 : Int32))) (mk I J)) else (if c = (118 : Int32) then (Φ (some (.int (2 : Int32))) (mk I J)) else (if c = (109 : Int32) then (Φ (some (.int (3 : Int32))) (mk I J)) else (if c = (122 : Int32) then (Φ (some (.int (4 : Int32))) (mk I J)) else (if c = (114 : Int32) then (Φ (some (.int (5 : Int32))) (mk I J)) else (Φ (some (.int (-1 : Int32))) (mk I J))))))))))) :
    mj_Met Ω l false mX12_itemOf d 0 0 [.int a, .int c] (mk I J) Φ := mj_entry (by decide) rfl (fun h => (by cases h)) (Nat.le_of_ble_eq_true rfl) (mj_blk (μ := mX12_itemOf) (P := pX12_itemOfS_0) (cut := cutX12_itemOfS) (cs := csX12_itemOfS) dX12_itemOfS_0 csX12_itemOfS_ok hd 73 0 _ h)
def tX12_itemOfS : mj_PT := fun as M Φ => match as with
  | [.int a, .int c] => ((mj_isk M) ∧ Φ (some (.int (if a = 108 then itL c else itB c))) M)
  | _ => False
set_option maxHeartbeats 4000000 in
theorem mnX12_itemOfS {Ω : mj_Om} {l : Launch} {d : Nat} {Φ : Option Value → mj_M → Prop} (hd : 1 ≤ d) (a : Int32) (c : Int32) (I : Nat → Nat → Int32) (J : Nat → Nat → Int64) (h : Φ (some (.int (if a = 108 then itL c else itB c))) (mk I J)) : mj_Met Ω l false mX12_itemOf d 0 0 [.int a, .int c] (mk I J) Φ := by
  refine inX12_itemOfS hd a c I J ?_
  by_cases z : a = 108
  · rw [if_pos z]; rw [if_pos z] at h
    by_cases q0 : c = 119
    · rw [if_pos q0]; unfold itL at h; rw [if_pos q0] at h; exact h
    rw [if_neg q0]
    by_cases q1 : c = 97
    · rw [if_pos q1]; unfold itL at h; rw [if_neg q0, if_pos q1] at h; exact h
    rw [if_neg q1]
    by_cases q2 : c = 101
    · rw [if_pos q2]; unfold itL at h; rw [if_neg q0, if_neg q1, if_pos q2] at h; exact h
    rw [if_neg q2]
    by_cases q3 : c = 117
    · rw [if_pos q3]; unfold itL at h; rw [if_neg q0, if_neg q1, if_neg q2, if_pos q3] at h; exact h
    rw [if_neg q3]
    by_cases q4 : c = 100
    · rw [if_pos q4]; unfold itL at h; rw [if_neg q0, if_neg q1, if_neg q2, if_neg q3, if_pos q4] at h; exact h
    rw [if_neg q4]
    by_cases q5 : c = 115
    · rw [if_pos q5]; unfold itL at h; rw [if_neg q0, if_neg q1, if_neg q2, if_neg q3, if_neg q4, if_pos q5] at h; exact h
    rw [if_neg q5]
    by_cases q6 : c = 102
    · rw [if_pos q6]; unfold itL at h; rw [if_neg q0, if_neg q1, if_neg q2, if_neg q3, if_neg q4, if_neg q5, if_pos q6] at h; exact h
    rw [if_neg q6]
    unfold itL at h; rw [if_neg q0, if_neg q1, if_neg q2, if_neg q3, if_neg q4, if_neg q5, if_neg q6] at h; exact h
  rw [if_neg z]; rw [if_neg z] at h
  by_cases q0 : c = 120
  · rw [if_pos q0]; unfold itB at h; rw [if_pos q0] at h; exact h
  rw [if_neg q0]
  by_cases q1 : c = 121
  · rw [if_pos q1]; unfold itB at h; rw [if_neg q0, if_pos q1] at h; exact h
  rw [if_neg q1]
  by_cases q2 : c = 118
  · rw [if_pos q2]; unfold itB at h; rw [if_neg q0, if_neg q1, if_pos q2] at h; exact h
  rw [if_neg q2]
  by_cases q3 : c = 109
  · rw [if_pos q3]; unfold itB at h; rw [if_neg q0, if_neg q1, if_neg q2, if_pos q3] at h; exact h
  rw [if_neg q3]
  by_cases q4 : c = 122
  · rw [if_pos q4]; unfold itB at h; rw [if_neg q0, if_neg q1, if_neg q2, if_neg q3, if_pos q4] at h; exact h
  rw [if_neg q4]
  by_cases q5 : c = 114
  · rw [if_pos q5]; unfold itB at h; rw [if_neg q0, if_neg q1, if_neg q2, if_neg q3, if_neg q4, if_pos q5] at h; exact h
  rw [if_neg q5]
  unfold itB at h; rw [if_neg q0, if_neg q1, if_neg q2, if_neg q3, if_neg q4, if_neg q5] at h; exact h
theorem sdX12_itemOfS : mj_Sd mX12_itemOf 1 tX12_itemOfS := by
  intro Ω l d hd as M Φ h
  unfold tX12_itemOfS at h
  split at h
  · rename_i a c
    obtain ⟨hM, h⟩ := h
    rw [mj_isk_of hM]
    exact mnX12_itemOfS hd a c _ _ (by
      rw [mj_isk_of hM] at h
      exact h)
  · exact h.elim
noncomputable def numQ (t : Nat) (τ : Nat → Int32) (p : Nat) (u : Int32) : Int32 := cif (isD (nsg t τ p)) (nI (nmV t τ 2 (skp t τ p) 0).2) u
def nuM (t : Nat) (τ : Nat → Int32) (p : Nat) (u v : Int32) (I1 : Nat → Nat → Int32) : Prop := (∀ e, numR t τ 2 p = .error e → I1 91 4 = nI e) ∧ ∀ y, numR t τ 2 p = .ok y → (nI y.2 < u ∨ v < nI y.2 → I1 91 4 = nI (y.1 - 1)) ∧ (¬ (nI y.2 < u ∨ v < nI y.2) → I1 91 3 = nI y.1 ∧ I1 91 4 = -1)
theorem dg1 {s : Int32} (h : isD s) : s - 48 = nI (10 * 0 + (s.toInt - 48).toNat) := by
  have := nm_step (v := 0) h (by omega)
  rw [show nI 0 * 10 = 0 from rfl, Int32.zero_add] at this
  exact this
def csX12_number : List (Nat × Nat × Nat × mj_PT) := [(112, 0, 1, mj_rcv 12 tX12_hereS), (125, 0, 1, mj_rcv 12 tX12_badS), (128, 0, 1, mj_rcv 12 tX12_look), (131, 1, 1, tX12_isDigitS), (214, 1, 3, tX12_in)]
theorem csX12_number_ok : mj_Cs mX12_number 3 csX12_number := (mj_CsV (D' := 1) (ci := 12) (q := (RX12, TX12, 45)) sdX12_hereS (Nat.le_of_ble_eq_true rfl) fX12_here rfl rfl iX12_here vX12_here (by decide +kernel) l12_112 (mj_CsV (D' := 1) (ci := 12) (q := (RX12, TX12, 45)) sdX12_badS (Nat.le_of_ble_eq_true rfl) fX12_bad rfl rfl iX12_bad vX12_bad (by decide +kernel) l12_125 (mj_CsV (D' := 2) (ci := 12) (q := (RX12, TX12, 45)) sdX12_look (Nat.le_of_ble_eq_true rfl) fX12_look rfl rfl iX12_look vX12_look (by decide +kernel) l12_128 (mj_CsS (D' := 1) sdX12_isDigitS (Nat.le_of_ble_eq_true rfl) fX12_isDigit sX12_isDigit (by decide +kernel) l12_131 (mj_CsS (D' := 1) sdX12_in (Nat.le_of_ble_eq_true rfl) fX12_in sX12_in (by decide +kernel) l12_214 mj_Cs0)))))
def cutX12_number : List (Nat × List Bool) := [(67, [true, true, true, true])]
set_option maxRecDepth 100000 in
set_option maxHeartbeats 4000000 in
theorem inX12_number {Ω : mj_Om} {l : Launch} {d : Nat} {Φ : Option Value → mj_M → Prop} (hd : 3 ≤ d) (u : Int32) (v : Int32) (I : Nat → Nat → Int32) (J : Nat → Nat → Int64)
    (h : (((91 = 91 ∧ mj_isk (mk I J)) ∧ (∃ t2822 : Nat, (∃ τ2823 : Nat → Int32, (∃ p2824 : Nat, ((TM I t2822 τ2823 ∧ I 91 3 = nI p2824 ∧ p2824 ≤ 300) ∧ (∀ I2825 : Nat → Nat → Int32, (I2825 91 3 = nI (skp t2822 τ2823 p2824) ∧ fr mFr I I2825) → ((mj_isk (mk I2825 J)) ∧ (if (b2i (isD (nsg t2822 τ2823 p2824))) = (0 : Int32) then ((91 = 91 ∧ mj_isk (mk I2825 J)) ∧ (∀ I2829 : Nat → Nat → Int32, (I2829 = mj_ui I2825 91 4 (bdV I2825)) → (Φ (some (.int u)) (mk I2829 J)))) else ((91 = 91 ∧ mj_isk (mk I2825 J)) ∧ (∃ t2831 : Nat, (∃ τ2832 : Nat → Int32, (∃ p2833 : Nat, ((TM I2825 t2831 τ2832 ∧ I2825 91 3 = nI p2833 ∧ p2833 ≤ 300) ∧ ((91 = 91 ∧ mj_isk (mk (mj_ui I2825 91 3 ((I2825 91 3) + (1 : Int32))) J)) ∧ (∃ t2836 : Nat, (∃ τ2837 : Nat → Int32, (∃ p2838 : Nat, ((TM (mj_ui I2825 91 3 ((I2825 91 3) + (1 : Int32))) t2836 τ2837 ∧ (mj_ui I2825 91 3 ((I2825 91 3) + (1 : Int32))) 91 3 = nI p2838 ∧ p2838 ≤ 300) ∧ ((mj_isk (mk (mj_ui I2825 91 3 ((I2825 91 3) + (1 : Int32))) J)) ∧ (if (b2i (isD (sg t2836 τ2837 p2838))) = (0 : Int32) then (mj_G Ω l false mX12_number d 0 0 Φ 0 0 67 ([some (.ref 91), some (.int u), some (.int v), some (.int ((sg t2831 τ2832 p2833) - (48 : Int32)))], [], (mk (mj_ui I2825 91 3 ((I2825 91 3) + (1 : Int32))) J))) else ((91 = 91 ∧ mj_isk (mk (mj_ui I2825 91 3 ((I2825 91 3) + (1 : Int32))) J)) ∧ (∃ t2843 : Nat, (∃ τ2844 : Nat → Int32, (∃ p2845 : Nat, ((TM (mj_ui I2825 91 3 ((I2825 91 3) + (1 : Int32))) t2843 τ2844 ∧ (mj_ui I2825 91 3 ((I2825 91 3) + (1 : Int32))) 91 3 = nI p2845 ∧ p2845 ≤ 300) ∧ (mj_G Ω l false mX12_number d 0 0 Φ 0 0 67 ([some (.ref 91), some (.int u), some (.int v), some (.int ((((10 : Int32) * ((sg t2831 τ2832 p2833) - (48 : Int32))) + (sg t2843 τ2844 p2845)) - (48 : Int32)))], [], (mk (mj_ui (mj_ui I2825 91 3 ((I2825 91 3) + (1 : Int32))) 91 3 (((I2825 91 3) + (1 : Int32)) + (1 : Int32))) J)))))))))))))))))))))))))))))) :
    mj_Met Ω l false mX12_number d 0 0 [.ref 91, .int u, .int v] (mk I J) Φ := mj_entry (by decide) rfl (fun h => (by cases h)) (Nat.le_of_ble_eq_true rfl) (mj_blk (μ := mX12_number) (P := pX12_number) (cut := cutX12_number) (cs := csX12_number) dX12_number csX12_number_ok hd 61 0 _ h)
set_option maxRecDepth 100000 in
set_option maxHeartbeats 4000000 in
theorem bX12_number_67 {Ω : mj_Om} {l : Launch} {d : Nat} {Φ : Option Value → mj_M → Prop} (hd : 3 ≤ d) (x1 : Int32) (x2 : Int32) (x3 : Int32) (I : Nat → Nat → Int32) (J : Nat → Nat → Int64)
    (h : (((91 = 91 ∧ mj_isk (mk I J)) ∧ (∃ t2848 : Nat, (∃ τ2849 : Nat → Int32, (∃ p2850 : Nat, ((TM I t2848 τ2849 ∧ I 91 3 = nI p2850 ∧ p2850 ≤ 300) ∧ ((mj_isk (mk I J)) ∧ (if (b2i (isD (sg t2848 τ2849 p2850))) = (0 : Int32) then (if x3 < x1 then ((91 = 91 ∧ mj_isk (mk (mj_ui I 91 3 ((I 91 3) - (1 : Int32))) J)) ∧ (∀ I2855 : Nat → Nat → Int32, (I2855 = mj_ui (mj_ui I 91 3 ((I 91 3) - (1 : Int32))) 91 4 (bdV (mj_ui I 91 3 ((I 91 3) - (1 : Int32))))) → (Φ (some (.int x3)) (mk I2855 J)))) else (if x2 < x3 then ((91 = 91 ∧ mj_isk (mk (mj_ui I 91 3 ((I 91 3) - (1 : Int32))) J)) ∧ (∀ I2857 : Nat → Nat → Int32, (I2857 = mj_ui (mj_ui I 91 3 ((I 91 3) - (1 : Int32))) 91 4 (bdV (mj_ui I 91 3 ((I 91 3) - (1 : Int32))))) → (Φ (some (.int x3)) (mk I2857 J)))) else (Φ (some (.int x3)) (mk I J)))) else ((91 = 91 ∧ mj_isk (mk I J)) ∧ (∀ I2859 : Nat → Nat → Int32, (I2859 = mj_ui I 91 4 (bdV I)) → (Φ (some (.int x3)) (mk I2859 J))))))))))))) :
    mj_G Ω l false mX12_number d 0 0 Φ 0 0 67 ([some (.ref 91), some (.int x1), some (.int x2), some (.int x3)], [], mk I J) := mj_blk (μ := mX12_number) (P := pX12_number) (cut := cutX12_number) (cs := csX12_number) dX12_number csX12_number_ok hd 61 67 _ h
def tX12_number : mj_PT := fun as M Φ => match as with
  | [.ref this, .int u, .int v] => ((this = 91 ∧ mj_isk M) ∧ (∃ t : Nat, (∃ τ : Nat → Int32, (∃ p : Nat, ((TM M.2.2.1 t τ ∧ M.2.2.1 91 3 = nI p ∧ p ≤ t ∧ M.2.2.1 91 4 = -1) ∧ (∀ I1 : Nat → Nat → Int32, (nuM t τ p u v I1 ∧ fr pFr M.2.2.1 I1) → Φ (some (.int (numQ t τ p u))) (M.1, M.2.1, I1, M.2.2.2)))))))
  | _ => False
set_option maxHeartbeats 8000000 in
theorem mnX12_number {Ω : mj_Om} {l : Launch} {d : Nat} {Φ : Option Value → mj_M → Prop} (hd : 3 ≤ d) (u : Int32) (v : Int32) (t : Nat) (τ : Nat → Int32) (p : Nat) (I : Nat → Nat → Int32) (J : Nat → Nat → Int64) (hp : TM I t τ ∧ I 91 3 = nI p ∧ p ≤ t ∧ I 91 4 = -1) (h : ∀ I1 : Nat → Nat → Int32, (nuM t τ p u v I1 ∧ fr pFr I I1) → Φ (some (.int (numQ t τ p u))) (mk I1 J)) : mj_Met Ω l false mX12_number d 0 0 [.ref 91, .int u, .int v] (mk I J) Φ := by
  refine inX12_number hd u v I J ?_
  obtain ⟨hT, h3, hpt, h4⟩ := hp
  have ht := hT.1.1
  have k1 := skp_le (τ := τ) hpt
  have k2 := skp_ge (t := t) (τ := τ) (p := p)
  refine ⟨⟨by trivial, mj_isk_mk _ _⟩, t, τ, p, ⟨hT, h3, by omega⟩, fun A hA => ⟨mj_isk_mk _ _, ?_⟩⟩
  obtain ⟨a3, am⟩ := hA
  have a4 : A 91 4 = -1 := by rw [am 91 4 (by unfold mFr; omega)]; exact h4
  have TA : ∀ B, fr pFr I B → TM B t τ := fun B hB => TM_d hT (p_dF hB)
  have aP := m_pF am
  by_cases qd : isD (nsg t τ p)
  case neg =>
    rw [if_pos (by rw [b2i_e0]; exact qd)]
    refine ⟨⟨by trivial, mj_isk_mk _ _⟩, fun B hB => ?_⟩
    have hb : bdV A = nI (skp t τ p) := by unfold bdV; rw [if_pos a4, a3]
    rw [hb] at hB
    have eN : numR t τ 2 p = .error (skp t τ p) := by unfold numR; rw [cif_f qd]
    have := h B ⟨⟨fun e he => by rw [eN] at he; cases he; rw [hB, ui_s], fun y he => by rw [eN] at he; cases he⟩, by rw [hB]; exact fr_ui aP ⟨rfl, by omega⟩⟩
    unfold numQ at this
    rw [cif_f qd] at this
    exact this
  rw [if_neg (by rw [b2i_e0]; exact fun u => u qd)]
  have hlt : skp t τ p < t := isD_lt qd
  refine ⟨⟨by trivial, mj_isk_mk _ _⟩, t, τ, skp t τ p, ⟨TA A aP, a3, by omega⟩, ?_⟩
  rw [a3, jn_succ]
  have cP : fr pFr I (mj_ui A 91 3 (nI (skp t τ p + 1))) := fr_ui aP ⟨rfl, by omega⟩
  unfold numQ at h
  rw [cif_t qd] at h
  have k67 : ∀ (q w : Nat) (B : Nat → Nat → Int32), q ≤ t → skp t τ p < q → (q, w) = nmV t τ 2 (skp t τ p) 0 → B 91 3 = nI q → B 91 4 = -1 → fr pFr I B → mj_G Ω l false mX12_number d 0 0 Φ 0 0 67 ([some (.ref 91), some (.int u), some (.int v), some (.int (nI w))], [], mk B J) := by
    intro q w B hq hlt2 he b3 b4 bP
    have e1 : (nmV t τ 2 (skp t τ p) 0).1 = q := by rw [← he]
    have e2 : (nmV t τ 2 (skp t τ p) 0).2 = w := by rw [← he]
    rw [e2] at h
    refine bX12_number_67 hd u v (nI w) B J ?_
    refine ⟨⟨by trivial, mj_isk_mk _ _⟩, t, τ, q, ⟨TA B bP, b3, by omega⟩, mj_isk_mk _ _, ?_⟩
    by_cases q3 : isD (sg t τ q)
    · rw [if_neg (by rw [b2i_e0]; exact fun u => u q3)]
      refine ⟨⟨by trivial, mj_isk_mk _ _⟩, fun C hC => ?_⟩
      have hb : bdV B = nI q := by unfold bdV; rw [if_pos b4, b3]
      rw [hb] at hC
      have eN : numR t τ 2 p = .error q := by unfold numR; rw [cif_t qd, e1, cif_t q3]
      exact h C ⟨⟨fun e he => by rw [eN] at he; cases he; rw [hC, ui_s], fun y he => by rw [eN] at he; cases he⟩, by rw [hC]; exact fr_ui bP ⟨rfl, by omega⟩⟩
    · rw [if_pos (by rw [b2i_e0]; exact q3)]
      have eN : numR t τ 2 p = .ok (q, w) := by unfold numR; rw [cif_t qd, e1, cif_f q3, ← he]
      have em : B 91 3 - 1 = nI (q - 1) := by rw [b3]; exact jn_sub (b := 1) (by omega)
      have bad : ∀ C : Nat → Nat → Int32, (nI w < u ∨ v < nI w) → C = mj_ui (mj_ui B 91 3 (nI (q - 1))) 91 4 (bdV (mj_ui B 91 3 (nI (q - 1)))) → Φ (some (.int (nI w))) (mk C J) := fun C hw hC => by
        have hb : bdV (mj_ui B 91 3 (nI (q - 1))) = nI (q - 1) := by unfold bdV; rw [ui_k (by decide), if_pos b4, ui_s]
        rw [hb] at hC
        exact h C ⟨⟨fun e he => by rw [eN] at he; (cases he), fun y he => by rw [eN] at he; cases he; exact ⟨fun _ => by rw [hC, ui_s], fun z => absurd hw z⟩⟩, by rw [hC]; exact fr_ui (fr_ui bP ⟨rfl, by omega⟩) ⟨rfl, by omega⟩⟩
      by_cases w1 : nI w < u
      · rw [if_pos w1, em]
        exact ⟨⟨by trivial, mj_isk_mk _ _⟩, fun C hC => bad C (Or.inl w1) hC⟩
      rw [if_neg w1]
      by_cases w2 : v < nI w
      · rw [if_pos w2, em]
        exact ⟨⟨by trivial, mj_isk_mk _ _⟩, fun C hC => bad C (Or.inr w2) hC⟩
      rw [if_neg w2]
      exact h B ⟨⟨fun e he => by rw [eN] at he; (cases he), fun y he => by rw [eN] at he; cases he; exact ⟨fun z => absurd z (fun z => z.elim w1 w2), fun _ => ⟨b3, b4⟩⟩⟩, bP⟩
  refine ⟨⟨by trivial, mj_isk_mk _ _⟩, t, τ, skp t τ p + 1, ⟨TA _ cP, ui_s, by omega⟩, mj_isk_mk _ _, ?_⟩
  have c4 : (mj_ui A 91 3 (nI (skp t τ p + 1))) 91 4 = -1 := by rw [ui_k (by decide)]; exact a4
  rw [dg1 (show isD (sg t τ (skp t τ p)) from qd)]
  by_cases q2 : isD (sg t τ (skp t τ p + 1))
  case neg =>
    rw [if_pos (by rw [b2i_e0]; exact q2)]
    exact k67 (skp t τ p + 1) _ _ hlt (by omega) (by rw [nmV_s (f := 1) qd, nmV_n q2]) ui_s c4 cP
  rw [if_neg (by rw [b2i_e0]; exact fun u => u q2)]
  refine ⟨⟨by trivial, mj_isk_mk _ _⟩, t, τ, skp t τ p + 1, ⟨TA _ cP, ui_s, by omega⟩, ?_⟩
  rw [jn_succ]
  have hw := qd.2
  have hs : ((sg t τ (skp t τ p)).toInt - 48).toNat ≤ 9 := by unfold nsg at hw; omega
  rw [nm_step' q2 (by omega)]
  exact k67 (skp t τ p + 1 + 1) _ _ (isD_lt q2) (by omega) (by rw [nmV_s (f := 1) qd, nmV_s (f := 0) q2]; rfl) ui_s (by rw [ui_k (by decide), ui_k (by decide)]; exact a4) (fr_ui cP ⟨rfl, by omega⟩)
theorem sdX12_number : mj_Sd mX12_number 3 tX12_number := by
  intro Ω l d hd as M Φ h
  unfold tX12_number at h
  split at h
  · rename_i z_this u v
    obtain ⟨⟨rfl, hM⟩, t, τ, p, hp, h⟩ := h
    rw [mj_isk_of hM]
    exact mnX12_number hd u v t τ p _ _ hp (by
      rw [mj_isk_of hM] at h
      exact h)
  · exact h.elim
/-- what the reference's items leave -/
def tFr (q o N c k : Nat) : Prop := (c = 91 ∧ (k = 3 ∨ k = 4)) ∨ (c = q ∧ o ≤ k ∧ k < o + N)
def wrT (q o N : Nat) (r : IR) (I1 : Nat → Nat → Int32) : Prop := (∀ e, r = .error e → e ≤ 300 ∧ I1 91 4 = nI e) ∧ ∀ y, r = .ok y → I1 91 3 = nI y.1 ∧ I1 91 4 = -1 ∧ ∀ j, j < N → I1 q (o + j) = y.2 j
def csX12_itemsL : List (Nat × Nat × Nat × mj_PT) := [(128, 0, 1, mj_rcv 12 tX12_look), (218, 1, 2, tX12_usualS), (222, 1, 2, tX12_itemOfS), (225, 1, 2, tX12_has), (229, 1, 2, tX12_lowestS), (232, 1, 2, tX12_highestS), (235, 0, 3, mj_rcv 12 tX12_number)]
theorem csX12_itemsL_ok : mj_Cs mX12_items 4 csX12_itemsL := (mj_CsV (D' := 2) (ci := 12) (q := (RX12, TX12, 45)) sdX12_look (Nat.le_of_ble_eq_true rfl) fX12_look rfl rfl iX12_look vX12_look (by decide +kernel) l12_128 (mj_CsS (D' := 1) sdX12_usualS (Nat.le_of_ble_eq_true rfl) fX12_usual sX12_usual (by decide +kernel) l12_218 (mj_CsS (D' := 1) sdX12_itemOfS (Nat.le_of_ble_eq_true rfl) fX12_itemOf sX12_itemOf (by decide +kernel) l12_222 (mj_CsS (D' := 1) sdX12_has (Nat.le_of_ble_eq_true rfl) fX12_has sX12_has (by decide +kernel) l12_225 (mj_CsS (D' := 1) sdX12_lowestS (Nat.le_of_ble_eq_true rfl) fX12_lowest sX12_lowest (by decide +kernel) l12_229 (mj_CsS (D' := 1) sdX12_highestS (Nat.le_of_ble_eq_true rfl) fX12_highest sX12_highest (by decide +kernel) l12_232 (mj_CsV (D' := 3) (ci := 12) (q := (RX12, TX12, 45)) sdX12_number (Nat.le_of_ble_eq_true rfl) fX12_number rfl rfl iX12_number vX12_number (by decide +kernel) l12_235 mj_Cs0)))))))
def cutX12_itemsL : List (Nat × List Bool) := [(3, [true, true, true, true, true, true, false]), (41, [true, true, true, true, true, true, true])]
def pX12_itemsL_0 : List (Nat × Instr × Nat) := [(0, .iconst 0, 1), (1, .istore 5, 2), (3, .iload 5, 2)]
set_option maxRecDepth 100000 in
theorem dX12_itemsL_0 : mj_pd cX12_items pX12_itemsL_0 := mj_pdB (by decide +kernel)
set_option maxRecDepth 100000 in
set_option maxHeartbeats 4000000 in
theorem inX12_itemsL {Ω : mj_Om} {l : Launch} {d : Nat} {Φ : Option Value → mj_M → Prop} (hd : 4 ≤ d) (a : Int32) (f : Int32) (m : Int32) (I : Nat → Nat → Int32) (J : Nat → Nat → Int64)
    (h : ((mj_G Ω l false mX12_items d 0 0 Φ 0 0 3 ([some (.ref 91), some (.int a), some (.ref 102), some (.int f), some (.int m), some (.int (0 : Int32)), none], [], (mk I J))))) :
    mj_Met Ω l false mX12_items d 0 0 [.ref 91, .int a, .ref 102, .int f, .int m] (mk I J) Φ := mj_entry (by decide) rfl (fun h => (by cases h)) (Nat.le_of_ble_eq_true rfl) (mj_blk (μ := mX12_items) (P := pX12_itemsL_0) (cut := cutX12_itemsL) (cs := csX12_itemsL) dX12_itemsL_0 csX12_itemsL_ok hd 4 0 _ h)
def pX12_itemsL_3 : List (Nat × Instr × Nat) := [(3, .iload 5, 2), (5, .iload 4, 2), (7, .if_icmp .ge 21, 3), (10, .aload_n 2, 1), (11, .iload_n 3, 1), (12, .iload 5, 2), (14, .iadd, 1), (15, .iload_n 1, 1), (16, .iload 5, 2), (18, .invokestatic 218, 3), (21, .iastore, 1), (22, .iinc 5 1, 3), (25, .goto (-22), 3), (28, .iconst 0, 1), (29, .istore 5, 2), (31, .iload_n 1, 1), (32, .aload_n 0, 1), (33, .invokevirtual 128, 3), (36, .invokestatic 222, 3), (39, .istore 6, 2), (41, .aload_n 0, 1)]
set_option maxRecDepth 100000 in
theorem dX12_itemsL_3 : mj_pd cX12_items pX12_itemsL_3 := mj_pdB (by decide +kernel)
set_option maxRecDepth 100000 in
set_option maxHeartbeats 4000000 in
theorem bX12_itemsL_3 {Ω : mj_Om} {l : Launch} {d : Nat} {Φ : Option Value → mj_M → Prop} (hd : 4 ≤ d) (x1 : Int32) (x3 : Int32) (x4 : Int32) (x5 : Int32) (I : Nat → Nat → Int32) (J : Nat → Nat → Int64)
    (h : ((if x5 < x4 then ((mj_isk (mk I J)) ∧ (mj_gd (mj_inB (x3 + x5) 7) (mj_G Ω l false mX12_items d 0 0 Φ 0 0 3 ([some (.ref 91), some (.int x1), some (.ref 102), some (.int x3), some (.int x4), some (.int (x5 + (1 : Int32))), none], [], (mk (mj_ui I 102 ((x3 + x5)).toNatClampNeg (if x1 = 108 then usL x5 else usB x5)) J))))) else ((91 = 91 ∧ mj_isk (mk I J)) ∧ (∃ t2888 : Nat, (∃ τ2889 : Nat → Int32, (∃ p2890 : Nat, ((TM I t2888 τ2889 ∧ I 91 3 = nI p2890 ∧ p2890 ≤ 300) ∧ (∀ I2891 : Nat → Nat → Int32, (I2891 91 3 = nI (skp t2888 τ2889 p2890) ∧ fr mFr I I2891) → ((mj_isk (mk I2891 J)) ∧ (mj_G Ω l false mX12_items d 0 0 Φ 0 0 41 ([some (.ref 91), some (.int x1), some (.ref 102), some (.int x3), some (.int x4), some (.int (0 : Int32)), some (.int (if x1 = 108 then itL (nsg t2888 τ2889 p2890) else itB (nsg t2888 τ2889 p2890)))], [], (mk I2891 J))))))))))))) :
    mj_G Ω l false mX12_items d 0 0 Φ 0 0 3 ([some (.ref 91), some (.int x1), some (.ref 102), some (.int x3), some (.int x4), some (.int x5), none], [], mk I J) := mj_blk (μ := mX12_items) (P := pX12_itemsL_3) (cut := cutX12_itemsL) (cs := csX12_itemsL) dX12_itemsL_3 csX12_itemsL_ok hd 22 3 _ h
def pX12_itemsL_41 : List (Nat × Instr × Nat) := [(41, .aload_n 0, 1), (42, .getfield 116, 3), (45, .iconst (-1), 1), (46, .if_icmp .ne 85, 3), (49, .iload 6, 2), (51, .iconst (-1), 1), (52, .if_icmp .eq 79, 3), (55, .iload 5, 2), (57, .iload 6, 2), (59, .invokestatic 225, 3), (62, .ifCond .ne 69, 3), (65, .iload 5, 2), (67, .iconst 1, 1), (68, .iload 6, 2), (70, .ishl, 1), (71, .ior, 1), (72, .istore 5, 2), (74, .aload_n 0, 1), (75, .dup, 1), (76, .getfield 109, 3), (79, .iconst 1, 1), (80, .iadd, 1), (81, .putfield 109, 3), (84, .aload_n 2, 1), (85, .iload_n 3, 1), (86, .iload 6, 2), (88, .iadd, 1), (89, .aload_n 0, 1), (90, .iload_n 1, 1), (91, .iload 6, 2), (93, .invokestatic 229, 3), (96, .iload_n 1, 1), (97, .iload 6, 2), (99, .invokestatic 232, 3), (102, .invokevirtual 235, 3), (105, .iastore, 1), (106, .aload_n 0, 1), (107, .getfield 116, 3), (110, .iconst (-1), 1), (111, .if_icmp .ne 14, 3), (114, .iload_n 1, 1), (115, .aload_n 0, 1), (116, .invokevirtual 128, 3), (119, .invokestatic 222, 3), (122, .goto 4, 3), (125, .iconst (-1), 1), (126, .istore 6, 2), (128, .goto (-87), 3), (131, .return_, 1)]
set_option maxRecDepth 100000 in
theorem dX12_itemsL_41 : mj_pd cX12_items pX12_itemsL_41 := mj_pdB (by decide +kernel)
set_option maxRecDepth 100000 in
set_option maxHeartbeats 4000000 in
theorem bX12_itemsL_41 {Ω : mj_Om} {l : Launch} {d : Nat} {Φ : Option Value → mj_M → Prop} (hd : 4 ≤ d) (x1 : Int32) (x3 : Int32) (x4 : Int32) (x5 : Int32) (x6 : Int32) (I : Nat → Nat → Int32) (J : Nat → Nat → Int64)
    (h : ((if (I 91 4) = (-1 : Int32) then (if x6 = (-1 : Int32) then (Φ none (mk I J)) else (if ((x5 >>> (x6 &&& 31)) &&& (1 : Int32)) = (1 : Int32) then (Φ none (mk I J)) else ((mj_isk (mk (mj_ui I 91 3 ((I 91 3) + (1 : Int32))) J)) ∧ ((mj_isk (mk (mj_ui I 91 3 ((I 91 3) + (1 : Int32))) J)) ∧ ((91 = 91 ∧ mj_isk (mk (mj_ui I 91 3 ((I 91 3) + (1 : Int32))) J)) ∧ (∃ t2899 : Nat, (∃ τ2900 : Nat → Int32, (∃ p2901 : Nat, ((TM (mj_ui I 91 3 ((I 91 3) + (1 : Int32))) t2899 τ2900 ∧ (mj_ui I 91 3 ((I 91 3) + (1 : Int32))) 91 3 = nI p2901 ∧ p2901 ≤ t2899 ∧ (mj_ui I 91 3 ((I 91 3) + (1 : Int32))) 91 4 = -1) ∧ (∀ I2902 : Nat → Nat → Int32, (nuM t2899 τ2900 p2901 (if x1 = 108 then loL x6 else loB x6) (if x1 = 108 then hiL x6 else hiB x6) I2902 ∧ fr pFr (mj_ui I 91 3 ((I 91 3) + (1 : Int32))) I2902) → (mj_gd (mj_inB (x3 + x6) 7) (if (I2902 91 4) = (-1 : Int32) then ((91 = 91 ∧ mj_isk (mk (mj_ui I2902 102 ((x3 + x6)).toNatClampNeg (numQ t2899 τ2900 p2901 (if x1 = 108 then loL x6 else loB x6))) J)) ∧ (∃ t2904 : Nat, (∃ τ2905 : Nat → Int32, (∃ p2906 : Nat, ((TM (mj_ui I2902 102 ((x3 + x6)).toNatClampNeg (numQ t2899 τ2900 p2901 (if x1 = 108 then loL x6 else loB x6))) t2904 τ2905 ∧ (mj_ui I2902 102 ((x3 + x6)).toNatClampNeg (numQ t2899 τ2900 p2901 (if x1 = 108 then loL x6 else loB x6))) 91 3 = nI p2906 ∧ p2906 ≤ 300) ∧ (∀ I2907 : Nat → Nat → Int32, (I2907 91 3 = nI (skp t2904 τ2905 p2906) ∧ fr mFr (mj_ui I2902 102 ((x3 + x6)).toNatClampNeg (numQ t2899 τ2900 p2901 (if x1 = 108 then loL x6 else loB x6))) I2907) → ((mj_isk (mk I2907 J)) ∧ (mj_G Ω l false mX12_items d 0 0 Φ 0 0 41 ([some (.ref 91), some (.int x1), some (.ref 102), some (.int x3), some (.int x4), some (.int (x5 ||| ((1 : Int32) <<< (x6 &&& 31)))), some (.int (if x1 = 108 then itL (nsg t2904 τ2905 p2906) else itB (nsg t2904 τ2905 p2906)))], [], (mk I2907 J)))))))))) else (mj_G Ω l false mX12_items d 0 0 Φ 0 0 41 ([some (.ref 91), some (.int x1), some (.ref 102), some (.int x3), some (.int x4), some (.int (x5 ||| ((1 : Int32) <<< (x6 &&& 31)))), some (.int (-1 : Int32))], [], (mk (mj_ui I2902 102 ((x3 + x6)).toNatClampNeg (numQ t2899 τ2900 p2901 (if x1 = 108 then loL x6 else loB x6))) J))))))))))))))) else (Φ none (mk I J))))) :
    mj_G Ω l false mX12_items d 0 0 Φ 0 0 41 ([some (.ref 91), some (.int x1), some (.ref 102), some (.int x3), some (.int x4), some (.int x5), some (.int x6)], [], mk I J) := mj_blk (μ := mX12_items) (P := pX12_itemsL_41) (cut := cutX12_itemsL) (cs := csX12_itemsL) dX12_itemsL_41 csX12_itemsL_ok hd 50 41 _ h
def tX12_itemsL : mj_PT := fun as M Φ => match as with
  | [.ref this, .int a, .ref q_, .int f, .int m] => ((this = 91 ∧ q_ = 102 ∧ mj_isk M) ∧ (∃ t : Nat, (∃ τ : Nat → Int32, (∃ p : Nat, (∃ o : Nat, ((a = 108 ∧ f = nI o ∧ o + 7 ≤ 7 ∧ m = 7 ∧ TM M.2.2.1 t τ ∧ M.2.2.1 91 3 = nI p ∧ p ≤ t ∧ M.2.2.1 91 4 = -1) ∧ (∀ I1 : Nat → Nat → Int32, (wrT 102 o 7 (itLP t τ p) I1 ∧ fr (tFr 102 o 7) M.2.2.1 I1) → Φ none (M.1, M.2.1, I1, M.2.2.2))))))))
  | _ => False
set_option maxHeartbeats 16000000 in
theorem mnX12_itemsL {Ω : mj_Om} {l : Launch} {d : Nat} {Φ : Option Value → mj_M → Prop} (hd : 4 ≤ d) (a : Int32) (f : Int32) (m : Int32) (t : Nat) (τ : Nat → Int32) (p : Nat) (o : Nat) (I : Nat → Nat → Int32) (J : Nat → Nat → Int64) (hp : a = 108 ∧ f = nI o ∧ o + 7 ≤ 7 ∧ m = 7 ∧ TM I t τ ∧ I 91 3 = nI p ∧ p ≤ t ∧ I 91 4 = -1) (h : ∀ I1 : Nat → Nat → Int32, (wrT 102 o 7 (itLP t τ p) I1 ∧ fr (tFr 102 o 7) I I1) → Φ none (mk I1 J)) : mj_Met Ω l false mX12_items d 0 0 [.ref 91, .int a, .ref 102, .int f, .int m] (mk I J) Φ := by
  refine inX12_itemsL hd a f m I J ?_
  obtain ⟨ha, hf, ho, hm, hT, h3, hpt, h4⟩ := hp
  have ht := hT.1.1
  have TA : ∀ B, fr (tFr 102 o 7) I B → TM B t τ := fun B hB => TM_fr hT (hB 91 2 (by unfold tFr; omega)) (fun k => hB 92 k (by unfold tFr; omega))
  have hE : ∀ (e : Nat) (A : Nat → Nat → Int32), e ≤ 300 → itLP t τ p = .error e → fr (tFr 102 o 7) I A → A 91 4 = nI e → Φ none (mk A J) := fun e A e3 he hf ha => h A ⟨⟨fun e' h' => by rw [he] at h'; cases h'; exact ⟨e3, ha⟩, fun y h' => by rw [he] at h'; cases h'⟩, hf⟩
  have hO : ∀ (y : Nat × (Nat → Int32)) (A : Nat → Nat → Int32), itLP t τ p = .ok y → fr (tFr 102 o 7) I A → A 91 3 = nI y.1 → A 91 4 = -1 → (∀ j, j < 7 → A 102 (o + j) = y.2 j) → Φ none (mk A J) := fun y A he hf a3 a4 hv => h A ⟨⟨fun e' h' => by rw [he] at h'; (cases h'), fun y' h' => by rw [he] at h'; cases h'; exact ⟨a3, a4, hv⟩⟩, hf⟩
  have key : ∀ (fu mm x : Nat) (g k : Int32) (V : Nat → Int32) (B : Nat → Nat → Int32), mm < 128 → pc7 mm + fu = 7 → g = nI mm → x ≤ t → k = itL (nsg t τ x) → B 91 3 = nI (skp t τ x) → B 91 4 = -1 → (∀ j, j < 7 → B 102 (o + j) = V j) → fr (tFr 102 o 7) I B → itLP t τ p = itP t τ itL loL hiL fu x g V → mj_G Ω l false mX12_items d 0 0 Φ 0 0 41 ([some (.ref 91), some (.int a), some (.ref 102), some (.int f), some (.int m), some (.int g), some (.int k)], [], mk B J) := by
    intro fu
    induction fu with
    | zero =>
      intro mm x g k V B hmm hpc hg hx hk b3 b4 bV bF he
      refine bX12_itemsL_41 hd a f m g k B J ?_
      rw [if_pos b4]
      have fin : Φ none (mk B J) := hO (skp t τ x, V) B he bF b3 b4 bV
      by_cases s1 : k = -1
      · rw [if_pos s1]; exact fin
      rw [if_neg s1]
      rw [hk] at s1
      obtain ⟨j, hj, ej⟩ := itL_b s1
      have s2 : hasB g k := by rw [hg, hk, ej]; exact full7 mm hmm (by omega) j hj
      rw [if_pos s2]; exact fin
    | succ fu ih =>
      intro mm x g k V B hmm hpc hg hx hk b3 b4 bV bF he
      have k1 := skp_le (τ := τ) hx
      have k2 := skp_ge (t := t) (τ := τ) (p := x)
      rw [itP] at he
      refine bX12_itemsL_41 hd a f m g k B J ?_
      rw [if_pos b4]
      by_cases s1 : k = -1
      · rw [if_pos s1]
        rw [if_pos (Or.inl (by rw [← hk]; exact s1))] at he
        exact hO (skp t τ x, V) B he bF b3 b4 bV
      rw [if_neg s1]
      have s1' : ¬ itL (nsg t τ x) = -1 := by rw [← hk]; exact s1
      obtain ⟨j, hj, ej⟩ := itL_b s1'
      have ek : k = nI j := hk.trans ej
      by_cases s2 : hasB g k
      · rw [if_pos s2]
        rw [if_pos (Or.inr (by rw [← hk]; exact s2))] at he
        exact hO (skp t τ x, V) B he bF b3 b4 bV
      rw [if_neg s2]
      rw [← hk, if_neg (fun w => w.elim s1 s2)] at he
      have h3' : skp t τ x + 1 ≤ t := nsg_p rfl (fun w => s1' (by rw [w]; decide))
      rw [ek, hg] at s2
      obtain ⟨u1, u2, u3⟩ := step7 mm hmm j hj s2
      rw [ek, hg, u1, jn_cl (by omega)] at he
      rw [ek, hg, u1, hf, jn_add, b3, jn_succ]
      have cF : fr (tFr 102 o 7) I (mj_ui B 91 3 (nI (skp t τ x + 1))) := fr_ui bF (Or.inl ⟨rfl, by omega⟩)
      refine ⟨mj_isk_mk _ _, mj_isk_mk _ _, ⟨by trivial, mj_isk_mk _ _⟩, t, τ, skp t τ x + 1, ⟨TA _ cF, ui_s, h3', by rw [ui_k (by decide)]; exact b4⟩, fun C hC => ?_⟩
      obtain ⟨⟨n1, n2⟩, cP⟩ := hC
      have cF' : fr (tFr 102 o 7) I C := fr_tr cF (fr_mo cP (fun c k w => Or.inl w))
      have cV : ∀ i, i < 7 → C 102 (o + i) = V i := fun i hi => by rw [cP 102 _ (by unfold pFr; omega), ui_c (by decide)]; exact bV i hi
      simp (disch := omega) only [jn_in, jn_cl, gd_dec]
      have eU : (if a = 108 then loL (nI j) else loB (nI j)) = loL (nI j) := if_pos ha
      have eV : (if a = 108 then hiL (nI j) else hiB (nI j)) = hiL (nI j) := if_pos ha
      rw [eU, eV] at n2
      try rw [eU]
      obtain ⟨o1, o2⟩ := num2_ok (τ := τ) h3'
      generalize hQ : numQ t τ (skp t τ x + 1) (loL (nI j)) = Q
      have bye : ∀ (e : Nat) (g2 : Int32), e ≤ 300 → itLP t τ p = .error e → C 91 4 = nI e → mj_G Ω l false mX12_items d 0 0 Φ 0 0 41 ([some (.ref 91), some (.int a), some (.ref 102), some (.int (nI o)), some (.int m), some (.int g2), some (.int (-1 : Int32))], [], mk (mj_ui C 102 (o + j) Q) J) := fun e g2 e3 hee hc4 => by
        refine bX12_itemsL_41 hd a (nI o) m g2 (-1) _ J ?_
        rw [ui_c (by decide), if_neg (by rw [hc4]; exact nI_n1 e3)]
        exact hE e _ e3 hee (fr_ui cF' (Or.inr ⟨rfl, by omega, by omega⟩)) (by rw [ui_c (by decide)]; exact hc4)
      cases hn : numR t τ 2 (skp t τ x + 1) with
      | error e =>
        rw [hn] at he
        have c4 := n1 e hn
        have e3 : e ≤ 300 := by have := o1 e hn; omega
        rw [if_neg (by rw [c4]; exact nI_n1 e3)]
        exact bye e _ e3 he c4
      | ok y =>
        obtain ⟨y1, y2, y3⟩ := o2 y hn
        obtain ⟨v1, v2⟩ := n2 y hn
        rw [hn] at he
        dsimp only at he
        by_cases w : nI y.2 < loL (nI j) ∨ hiL (nI j) < nI y.2
        · rw [if_pos w] at he
          have c4 := v1 w
          rw [if_neg (by rw [c4]; exact nI_n1 (by omega))]
          exact bye (y.1 - 1) _ (by omega) he c4
        · rw [if_neg w] at he
          obtain ⟨c3, c4⟩ := v2 w
          have eQ : Q = nI y.2 := by
            rw [← hQ]
            unfold numR at hn
            unfold numQ
            by_cases z : isD (nsg t τ (skp t τ x + 1))
            · rw [cif_t z] at hn ⊢
              by_cases z2 : isD (sg t τ (nmV t τ 2 (skp t τ (skp t τ x + 1)) 0).1)
              · rw [cif_t z2] at hn; cases hn
              · rw [cif_f z2] at hn; cases hn; rfl
            · rw [cif_f z] at hn; cases hn
          rw [if_pos c4, eQ]
          have dF : fr (tFr 102 o 7) I (mj_ui C 102 (o + j) (nI y.2)) := fr_ui cF' (Or.inr ⟨rfl, by omega, by omega⟩)
          refine ⟨⟨by trivial, mj_isk_mk _ _⟩, t, τ, y.1, ⟨TA _ dF, by rw [ui_c (by decide)]; exact c3, by omega⟩, fun D hD => ⟨mj_isk_mk _ _, ?_⟩⟩
          obtain ⟨d3, dm⟩ := hD
          rw [← hf]
          refine ih (mm + 2 ^ j) y.1 _ _ _ D u3 (by omega) rfl y2 (if_pos ha) d3 (by rw [dm 91 4 (by unfold mFr; omega), ui_c (by decide)]; exact c4) (fun i hi => ?_) (fr_tr dF (fr_mo dm (fun c k w => by unfold mFr at w; unfold tFr; omega))) he
          rw [dm 102 _ (by unfold mFr; omega)]
          unfold vupd
          by_cases z : i = j
          · rw [if_pos z, z, ui_s]
          · rw [if_neg z, ui_k (by omega)]; exact cV i hi
  refine lp_inv (σ := Nat → Nat → Int32) (n := 7) (G := fun i B => mj_G Ω l false mX12_items d 0 0 Φ 0 0 3 ([some (.ref 91), some (.int a), some (.ref 102), some (.int f), some (.int m), some (.int (nI i)), none], [], mk B J)) (fun i B => (∀ j, j < i → B 102 (o + j) = usL (nI j)) ∧ fr (fun c k => c = 102 ∧ o ≤ k ∧ k < o + 7) I B) (fun i B hi hI hk => ?_) (fun B hI => ?_) 7 0 I (by omega) ⟨fun j hj => absurd hj (Nat.not_lt_zero j), fr_rf⟩
  · refine bX12_itemsL_3 hd a f m (nI i) B J ?_
    rw [hm, if_pos (show nI i < (7 : Int32) from nlt (a := i) (b := 7) hi (by omega)), hf, jn_add]
    refine ⟨mj_isk_mk _ _, ?_⟩
    simp (disch := omega) only [jn_in, jn_cl, gd_dec, jn_succ]
    have eU : (if a = 108 then usL (nI i) else usB (nI i)) = usL (nI i) := if_pos ha
    try rw [eU]
    rw [hm, hf] at hk
    refine hk _ ⟨fun j hj => ?_, fr_ui hI.2 ⟨rfl, by omega, by omega⟩⟩
    by_cases z : j = i
    · rw [z, ui_s]
    · rw [ui_k (by omega)]; exact hI.1 j (by omega)
  · refine bX12_itemsL_3 hd a f m (nI 7) B J ?_
    rw [hm, if_neg (by decide), ← hm]
    have bF : fr (tFr 102 o 7) I B := fr_mo hI.2 (fun c k w => Or.inr w)
    refine ⟨⟨by trivial, mj_isk_mk _ _⟩, t, τ, p, ⟨TA B bF, by rw [hI.2 91 3 (by (try dsimp only); omega)]; exact h3, by omega⟩, fun C hC => ⟨mj_isk_mk _ _, ?_⟩⟩
    obtain ⟨c3, cm⟩ := hC
    exact key 7 0 p 0 _ (fun j => usL (nI j)) C (by decide) (by decide) rfl hpt (if_pos ha) c3 (by rw [cm 91 4 (by unfold mFr; omega), hI.2 91 4 (by (try dsimp only); omega)]; exact h4) (fun j hj => by rw [cm 102 _ (by unfold mFr; omega)]; exact hI.1 j hj) (fr_tr bF (fr_mo cm (fun c k w => by unfold mFr at w; unfold tFr; omega))) rfl
theorem sdX12_itemsL : mj_Sd mX12_items 4 tX12_itemsL := by
  intro Ω l d hd as M Φ h
  unfold tX12_itemsL at h
  split at h
  · rename_i z_this a z_q f m
    obtain ⟨⟨rfl, rfl, hM⟩, t, τ, p, o, hp, h⟩ := h
    rw [mj_isk_of hM]
    exact mnX12_itemsL hd a f m t τ p o _ _ hp (by
      rw [mj_isk_of hM] at h
      exact h)
  · exact h.elim
def csX12_itemsB : List (Nat × Nat × Nat × mj_PT) := [(128, 0, 1, mj_rcv 12 tX12_look), (218, 1, 2, tX12_usualS), (222, 1, 2, tX12_itemOfS), (225, 1, 2, tX12_has), (229, 1, 2, tX12_lowestS), (232, 1, 2, tX12_highestS), (235, 0, 3, mj_rcv 12 tX12_number)]
theorem csX12_itemsB_ok : mj_Cs mX12_items 4 csX12_itemsB := (mj_CsV (D' := 2) (ci := 12) (q := (RX12, TX12, 45)) sdX12_look (Nat.le_of_ble_eq_true rfl) fX12_look rfl rfl iX12_look vX12_look (by decide +kernel) l12_128 (mj_CsS (D' := 1) sdX12_usualS (Nat.le_of_ble_eq_true rfl) fX12_usual sX12_usual (by decide +kernel) l12_218 (mj_CsS (D' := 1) sdX12_itemOfS (Nat.le_of_ble_eq_true rfl) fX12_itemOf sX12_itemOf (by decide +kernel) l12_222 (mj_CsS (D' := 1) sdX12_has (Nat.le_of_ble_eq_true rfl) fX12_has sX12_has (by decide +kernel) l12_225 (mj_CsS (D' := 1) sdX12_lowestS (Nat.le_of_ble_eq_true rfl) fX12_lowest sX12_lowest (by decide +kernel) l12_229 (mj_CsS (D' := 1) sdX12_highestS (Nat.le_of_ble_eq_true rfl) fX12_highest sX12_highest (by decide +kernel) l12_232 (mj_CsV (D' := 3) (ci := 12) (q := (RX12, TX12, 45)) sdX12_number (Nat.le_of_ble_eq_true rfl) fX12_number rfl rfl iX12_number vX12_number (by decide +kernel) l12_235 mj_Cs0)))))))
def cutX12_itemsB : List (Nat × List Bool) := [(3, [true, true, true, true, true, true, false]), (41, [true, true, true, true, true, true, true])]
def pX12_itemsB_0 : List (Nat × Instr × Nat) := [(0, .iconst 0, 1), (1, .istore 5, 2), (3, .iload 5, 2)]
set_option maxRecDepth 100000 in
theorem dX12_itemsB_0 : mj_pd cX12_items pX12_itemsB_0 := mj_pdB (by decide +kernel)
set_option maxRecDepth 100000 in
set_option maxHeartbeats 4000000 in
theorem inX12_itemsB {Ω : mj_Om} {l : Launch} {d : Nat} {Φ : Option Value → mj_M → Prop} (hd : 4 ≤ d) (a : Int32) (f : Int32) (m : Int32) (I : Nat → Nat → Int32) (J : Nat → Nat → Int64)
    (h : ((mj_G Ω l false mX12_items d 0 0 Φ 0 0 3 ([some (.ref 91), some (.int a), some (.ref 103), some (.int f), some (.int m), some (.int (0 : Int32)), none], [], (mk I J))))) :
    mj_Met Ω l false mX12_items d 0 0 [.ref 91, .int a, .ref 103, .int f, .int m] (mk I J) Φ := mj_entry (by decide) rfl (fun h => (by cases h)) (Nat.le_of_ble_eq_true rfl) (mj_blk (μ := mX12_items) (P := pX12_itemsB_0) (cut := cutX12_itemsB) (cs := csX12_itemsB) dX12_itemsB_0 csX12_itemsB_ok hd 4 0 _ h)
def pX12_itemsB_3 : List (Nat × Instr × Nat) := [(3, .iload 5, 2), (5, .iload 4, 2), (7, .if_icmp .ge 21, 3), (10, .aload_n 2, 1), (11, .iload_n 3, 1), (12, .iload 5, 2), (14, .iadd, 1), (15, .iload_n 1, 1), (16, .iload 5, 2), (18, .invokestatic 218, 3), (21, .iastore, 1), (22, .iinc 5 1, 3), (25, .goto (-22), 3), (28, .iconst 0, 1), (29, .istore 5, 2), (31, .iload_n 1, 1), (32, .aload_n 0, 1), (33, .invokevirtual 128, 3), (36, .invokestatic 222, 3), (39, .istore 6, 2), (41, .aload_n 0, 1)]
set_option maxRecDepth 100000 in
theorem dX12_itemsB_3 : mj_pd cX12_items pX12_itemsB_3 := mj_pdB (by decide +kernel)
set_option maxRecDepth 100000 in
set_option maxHeartbeats 4000000 in
theorem bX12_itemsB_3 {Ω : mj_Om} {l : Launch} {d : Nat} {Φ : Option Value → mj_M → Prop} (hd : 4 ≤ d) (x1 : Int32) (x3 : Int32) (x4 : Int32) (x5 : Int32) (I : Nat → Nat → Int32) (J : Nat → Nat → Int64)
    (h : ((if x5 < x4 then ((mj_isk (mk I J)) ∧ (mj_gd (mj_inB (x3 + x5) 48) (mj_G Ω l false mX12_items d 0 0 Φ 0 0 3 ([some (.ref 91), some (.int x1), some (.ref 103), some (.int x3), some (.int x4), some (.int (x5 + (1 : Int32))), none], [], (mk (mj_ui I 103 ((x3 + x5)).toNatClampNeg (if x1 = 108 then usL x5 else usB x5)) J))))) else ((91 = 91 ∧ mj_isk (mk I J)) ∧ (∃ t2938 : Nat, (∃ τ2939 : Nat → Int32, (∃ p2940 : Nat, ((TM I t2938 τ2939 ∧ I 91 3 = nI p2940 ∧ p2940 ≤ 300) ∧ (∀ I2941 : Nat → Nat → Int32, (I2941 91 3 = nI (skp t2938 τ2939 p2940) ∧ fr mFr I I2941) → ((mj_isk (mk I2941 J)) ∧ (mj_G Ω l false mX12_items d 0 0 Φ 0 0 41 ([some (.ref 91), some (.int x1), some (.ref 103), some (.int x3), some (.int x4), some (.int (0 : Int32)), some (.int (if x1 = 108 then itL (nsg t2938 τ2939 p2940) else itB (nsg t2938 τ2939 p2940)))], [], (mk I2941 J))))))))))))) :
    mj_G Ω l false mX12_items d 0 0 Φ 0 0 3 ([some (.ref 91), some (.int x1), some (.ref 103), some (.int x3), some (.int x4), some (.int x5), none], [], mk I J) := mj_blk (μ := mX12_items) (P := pX12_itemsB_3) (cut := cutX12_itemsB) (cs := csX12_itemsB) dX12_itemsB_3 csX12_itemsB_ok hd 22 3 _ h
def pX12_itemsB_41 : List (Nat × Instr × Nat) := [(41, .aload_n 0, 1), (42, .getfield 116, 3), (45, .iconst (-1), 1), (46, .if_icmp .ne 85, 3), (49, .iload 6, 2), (51, .iconst (-1), 1), (52, .if_icmp .eq 79, 3), (55, .iload 5, 2), (57, .iload 6, 2), (59, .invokestatic 225, 3), (62, .ifCond .ne 69, 3), (65, .iload 5, 2), (67, .iconst 1, 1), (68, .iload 6, 2), (70, .ishl, 1), (71, .ior, 1), (72, .istore 5, 2), (74, .aload_n 0, 1), (75, .dup, 1), (76, .getfield 109, 3), (79, .iconst 1, 1), (80, .iadd, 1), (81, .putfield 109, 3), (84, .aload_n 2, 1), (85, .iload_n 3, 1), (86, .iload 6, 2), (88, .iadd, 1), (89, .aload_n 0, 1), (90, .iload_n 1, 1), (91, .iload 6, 2), (93, .invokestatic 229, 3), (96, .iload_n 1, 1), (97, .iload 6, 2), (99, .invokestatic 232, 3), (102, .invokevirtual 235, 3), (105, .iastore, 1), (106, .aload_n 0, 1), (107, .getfield 116, 3), (110, .iconst (-1), 1), (111, .if_icmp .ne 14, 3), (114, .iload_n 1, 1), (115, .aload_n 0, 1), (116, .invokevirtual 128, 3), (119, .invokestatic 222, 3), (122, .goto 4, 3), (125, .iconst (-1), 1), (126, .istore 6, 2), (128, .goto (-87), 3), (131, .return_, 1)]
set_option maxRecDepth 100000 in
theorem dX12_itemsB_41 : mj_pd cX12_items pX12_itemsB_41 := mj_pdB (by decide +kernel)
set_option maxRecDepth 100000 in
set_option maxHeartbeats 4000000 in
theorem bX12_itemsB_41 {Ω : mj_Om} {l : Launch} {d : Nat} {Φ : Option Value → mj_M → Prop} (hd : 4 ≤ d) (x1 : Int32) (x3 : Int32) (x4 : Int32) (x5 : Int32) (x6 : Int32) (I : Nat → Nat → Int32) (J : Nat → Nat → Int64)
    (h : ((if (I 91 4) = (-1 : Int32) then (if x6 = (-1 : Int32) then (Φ none (mk I J)) else (if ((x5 >>> (x6 &&& 31)) &&& (1 : Int32)) = (1 : Int32) then (Φ none (mk I J)) else ((mj_isk (mk (mj_ui I 91 3 ((I 91 3) + (1 : Int32))) J)) ∧ ((mj_isk (mk (mj_ui I 91 3 ((I 91 3) + (1 : Int32))) J)) ∧ ((91 = 91 ∧ mj_isk (mk (mj_ui I 91 3 ((I 91 3) + (1 : Int32))) J)) ∧ (∃ t2949 : Nat, (∃ τ2950 : Nat → Int32, (∃ p2951 : Nat, ((TM (mj_ui I 91 3 ((I 91 3) + (1 : Int32))) t2949 τ2950 ∧ (mj_ui I 91 3 ((I 91 3) + (1 : Int32))) 91 3 = nI p2951 ∧ p2951 ≤ t2949 ∧ (mj_ui I 91 3 ((I 91 3) + (1 : Int32))) 91 4 = -1) ∧ (∀ I2952 : Nat → Nat → Int32, (nuM t2949 τ2950 p2951 (if x1 = 108 then loL x6 else loB x6) (if x1 = 108 then hiL x6 else hiB x6) I2952 ∧ fr pFr (mj_ui I 91 3 ((I 91 3) + (1 : Int32))) I2952) → (mj_gd (mj_inB (x3 + x6) 48) (if (I2952 91 4) = (-1 : Int32) then ((91 = 91 ∧ mj_isk (mk (mj_ui I2952 103 ((x3 + x6)).toNatClampNeg (numQ t2949 τ2950 p2951 (if x1 = 108 then loL x6 else loB x6))) J)) ∧ (∃ t2954 : Nat, (∃ τ2955 : Nat → Int32, (∃ p2956 : Nat, ((TM (mj_ui I2952 103 ((x3 + x6)).toNatClampNeg (numQ t2949 τ2950 p2951 (if x1 = 108 then loL x6 else loB x6))) t2954 τ2955 ∧ (mj_ui I2952 103 ((x3 + x6)).toNatClampNeg (numQ t2949 τ2950 p2951 (if x1 = 108 then loL x6 else loB x6))) 91 3 = nI p2956 ∧ p2956 ≤ 300) ∧ (∀ I2957 : Nat → Nat → Int32, (I2957 91 3 = nI (skp t2954 τ2955 p2956) ∧ fr mFr (mj_ui I2952 103 ((x3 + x6)).toNatClampNeg (numQ t2949 τ2950 p2951 (if x1 = 108 then loL x6 else loB x6))) I2957) → ((mj_isk (mk I2957 J)) ∧ (mj_G Ω l false mX12_items d 0 0 Φ 0 0 41 ([some (.ref 91), some (.int x1), some (.ref 103), some (.int x3), some (.int x4), some (.int (x5 ||| ((1 : Int32) <<< (x6 &&& 31)))), some (.int (if x1 = 108 then itL (nsg t2954 τ2955 p2956) else itB (nsg t2954 τ2955 p2956)))], [], (mk I2957 J)))))))))) else (mj_G Ω l false mX12_items d 0 0 Φ 0 0 41 ([some (.ref 91), some (.int x1), some (.ref 103), some (.int x3), some (.int x4), some (.int (x5 ||| ((1 : Int32) <<< (x6 &&& 31)))), some (.int (-1 : Int32))], [], (mk (mj_ui I2952 103 ((x3 + x6)).toNatClampNeg (numQ t2949 τ2950 p2951 (if x1 = 108 then loL x6 else loB x6))) J))))))))))))))) else (Φ none (mk I J))))) :
    mj_G Ω l false mX12_items d 0 0 Φ 0 0 41 ([some (.ref 91), some (.int x1), some (.ref 103), some (.int x3), some (.int x4), some (.int x5), some (.int x6)], [], mk I J) := mj_blk (μ := mX12_items) (P := pX12_itemsB_41) (cut := cutX12_itemsB) (cs := csX12_itemsB) dX12_itemsB_41 csX12_itemsB_ok hd 50 41 _ h
def tX12_itemsB : mj_PT := fun as M Φ => match as with
  | [.ref this, .int a, .ref q_, .int f, .int m] => ((this = 91 ∧ q_ = 103 ∧ mj_isk M) ∧ (∃ t : Nat, (∃ τ : Nat → Int32, (∃ p : Nat, (∃ o : Nat, ((¬ a = 108 ∧ f = nI o ∧ o + 6 ≤ 48 ∧ m = 6 ∧ TM M.2.2.1 t τ ∧ M.2.2.1 91 3 = nI p ∧ p ≤ t ∧ M.2.2.1 91 4 = -1) ∧ (∀ I1 : Nat → Nat → Int32, (wrT 103 o 6 (itBP t τ p) I1 ∧ fr (tFr 103 o 6) M.2.2.1 I1) → Φ none (M.1, M.2.1, I1, M.2.2.2))))))))
  | _ => False
set_option maxHeartbeats 16000000 in
theorem mnX12_itemsB {Ω : mj_Om} {l : Launch} {d : Nat} {Φ : Option Value → mj_M → Prop} (hd : 4 ≤ d) (a : Int32) (f : Int32) (m : Int32) (t : Nat) (τ : Nat → Int32) (p : Nat) (o : Nat) (I : Nat → Nat → Int32) (J : Nat → Nat → Int64) (hp : ¬ a = 108 ∧ f = nI o ∧ o + 6 ≤ 48 ∧ m = 6 ∧ TM I t τ ∧ I 91 3 = nI p ∧ p ≤ t ∧ I 91 4 = -1) (h : ∀ I1 : Nat → Nat → Int32, (wrT 103 o 6 (itBP t τ p) I1 ∧ fr (tFr 103 o 6) I I1) → Φ none (mk I1 J)) : mj_Met Ω l false mX12_items d 0 0 [.ref 91, .int a, .ref 103, .int f, .int m] (mk I J) Φ := by
  refine inX12_itemsB hd a f m I J ?_
  obtain ⟨ha, hf, ho, hm, hT, h3, hpt, h4⟩ := hp
  have ht := hT.1.1
  have TA : ∀ B, fr (tFr 103 o 6) I B → TM B t τ := fun B hB => TM_fr hT (hB 91 2 (by unfold tFr; omega)) (fun k => hB 92 k (by unfold tFr; omega))
  have hE : ∀ (e : Nat) (A : Nat → Nat → Int32), e ≤ 300 → itBP t τ p = .error e → fr (tFr 103 o 6) I A → A 91 4 = nI e → Φ none (mk A J) := fun e A e3 he hf ha => h A ⟨⟨fun e' h' => by rw [he] at h'; cases h'; exact ⟨e3, ha⟩, fun y h' => by rw [he] at h'; cases h'⟩, hf⟩
  have hO : ∀ (y : Nat × (Nat → Int32)) (A : Nat → Nat → Int32), itBP t τ p = .ok y → fr (tFr 103 o 6) I A → A 91 3 = nI y.1 → A 91 4 = -1 → (∀ j, j < 6 → A 103 (o + j) = y.2 j) → Φ none (mk A J) := fun y A he hf a3 a4 hv => h A ⟨⟨fun e' h' => by rw [he] at h'; (cases h'), fun y' h' => by rw [he] at h'; cases h'; exact ⟨a3, a4, hv⟩⟩, hf⟩
  have key : ∀ (fu mm x : Nat) (g k : Int32) (V : Nat → Int32) (B : Nat → Nat → Int32), mm < 64 → pc7 mm + fu = 6 → g = nI mm → x ≤ t → k = itB (nsg t τ x) → B 91 3 = nI (skp t τ x) → B 91 4 = -1 → (∀ j, j < 6 → B 103 (o + j) = V j) → fr (tFr 103 o 6) I B → itBP t τ p = itP t τ itB loB hiB fu x g V → mj_G Ω l false mX12_items d 0 0 Φ 0 0 41 ([some (.ref 91), some (.int a), some (.ref 103), some (.int f), some (.int m), some (.int g), some (.int k)], [], mk B J) := by
    intro fu
    induction fu with
    | zero =>
      intro mm x g k V B hmm hpc hg hx hk b3 b4 bV bF he
      refine bX12_itemsB_41 hd a f m g k B J ?_
      rw [if_pos b4]
      have fin : Φ none (mk B J) := hO (skp t τ x, V) B he bF b3 b4 bV
      by_cases s1 : k = -1
      · rw [if_pos s1]; exact fin
      rw [if_neg s1]
      rw [hk] at s1
      obtain ⟨j, hj, ej⟩ := itB_b s1
      have s2 : hasB g k := by rw [hg, hk, ej]; exact full6 mm hmm (by omega) j hj
      rw [if_pos s2]; exact fin
    | succ fu ih =>
      intro mm x g k V B hmm hpc hg hx hk b3 b4 bV bF he
      have k1 := skp_le (τ := τ) hx
      have k2 := skp_ge (t := t) (τ := τ) (p := x)
      rw [itP] at he
      refine bX12_itemsB_41 hd a f m g k B J ?_
      rw [if_pos b4]
      by_cases s1 : k = -1
      · rw [if_pos s1]
        rw [if_pos (Or.inl (by rw [← hk]; exact s1))] at he
        exact hO (skp t τ x, V) B he bF b3 b4 bV
      rw [if_neg s1]
      have s1' : ¬ itB (nsg t τ x) = -1 := by rw [← hk]; exact s1
      obtain ⟨j, hj, ej⟩ := itB_b s1'
      have ek : k = nI j := hk.trans ej
      by_cases s2 : hasB g k
      · rw [if_pos s2]
        rw [if_pos (Or.inr (by rw [← hk]; exact s2))] at he
        exact hO (skp t τ x, V) B he bF b3 b4 bV
      rw [if_neg s2]
      rw [← hk, if_neg (fun w => w.elim s1 s2)] at he
      have h3' : skp t τ x + 1 ≤ t := nsg_p rfl (fun w => s1' (by rw [w]; decide))
      rw [ek, hg] at s2
      obtain ⟨u1, u2, u3⟩ := step6 mm hmm j hj s2
      rw [ek, hg, u1, jn_cl (by omega)] at he
      rw [ek, hg, u1, hf, jn_add, b3, jn_succ]
      have cF : fr (tFr 103 o 6) I (mj_ui B 91 3 (nI (skp t τ x + 1))) := fr_ui bF (Or.inl ⟨rfl, by omega⟩)
      refine ⟨mj_isk_mk _ _, mj_isk_mk _ _, ⟨by trivial, mj_isk_mk _ _⟩, t, τ, skp t τ x + 1, ⟨TA _ cF, ui_s, h3', by rw [ui_k (by decide)]; exact b4⟩, fun C hC => ?_⟩
      obtain ⟨⟨n1, n2⟩, cP⟩ := hC
      have cF' : fr (tFr 103 o 6) I C := fr_tr cF (fr_mo cP (fun c k w => Or.inl w))
      have cV : ∀ i, i < 6 → C 103 (o + i) = V i := fun i hi => by rw [cP 103 _ (by unfold pFr; omega), ui_c (by decide)]; exact bV i hi
      simp (disch := omega) only [jn_in, jn_cl, gd_dec]
      have eU : (if a = 108 then loL (nI j) else loB (nI j)) = loB (nI j) := if_neg ha
      have eV : (if a = 108 then hiL (nI j) else hiB (nI j)) = hiB (nI j) := if_neg ha
      rw [eU, eV] at n2
      try rw [eU]
      obtain ⟨o1, o2⟩ := num2_ok (τ := τ) h3'
      generalize hQ : numQ t τ (skp t τ x + 1) (loB (nI j)) = Q
      have bye : ∀ (e : Nat) (g2 : Int32), e ≤ 300 → itBP t τ p = .error e → C 91 4 = nI e → mj_G Ω l false mX12_items d 0 0 Φ 0 0 41 ([some (.ref 91), some (.int a), some (.ref 103), some (.int (nI o)), some (.int m), some (.int g2), some (.int (-1 : Int32))], [], mk (mj_ui C 103 (o + j) Q) J) := fun e g2 e3 hee hc4 => by
        refine bX12_itemsB_41 hd a (nI o) m g2 (-1) _ J ?_
        rw [ui_c (by decide), if_neg (by rw [hc4]; exact nI_n1 e3)]
        exact hE e _ e3 hee (fr_ui cF' (Or.inr ⟨rfl, by omega, by omega⟩)) (by rw [ui_c (by decide)]; exact hc4)
      cases hn : numR t τ 2 (skp t τ x + 1) with
      | error e =>
        rw [hn] at he
        have c4 := n1 e hn
        have e3 : e ≤ 300 := by have := o1 e hn; omega
        rw [if_neg (by rw [c4]; exact nI_n1 e3)]
        exact bye e _ e3 he c4
      | ok y =>
        obtain ⟨y1, y2, y3⟩ := o2 y hn
        obtain ⟨v1, v2⟩ := n2 y hn
        rw [hn] at he
        dsimp only at he
        by_cases w : nI y.2 < loB (nI j) ∨ hiB (nI j) < nI y.2
        · rw [if_pos w] at he
          have c4 := v1 w
          rw [if_neg (by rw [c4]; exact nI_n1 (by omega))]
          exact bye (y.1 - 1) _ (by omega) he c4
        · rw [if_neg w] at he
          obtain ⟨c3, c4⟩ := v2 w
          have eQ : Q = nI y.2 := by
            rw [← hQ]
            unfold numR at hn
            unfold numQ
            by_cases z : isD (nsg t τ (skp t τ x + 1))
            · rw [cif_t z] at hn ⊢
              by_cases z2 : isD (sg t τ (nmV t τ 2 (skp t τ (skp t τ x + 1)) 0).1)
              · rw [cif_t z2] at hn; cases hn
              · rw [cif_f z2] at hn; cases hn; rfl
            · rw [cif_f z] at hn; cases hn
          rw [if_pos c4, eQ]
          have dF : fr (tFr 103 o 6) I (mj_ui C 103 (o + j) (nI y.2)) := fr_ui cF' (Or.inr ⟨rfl, by omega, by omega⟩)
          refine ⟨⟨by trivial, mj_isk_mk _ _⟩, t, τ, y.1, ⟨TA _ dF, by rw [ui_c (by decide)]; exact c3, by omega⟩, fun D hD => ⟨mj_isk_mk _ _, ?_⟩⟩
          obtain ⟨d3, dm⟩ := hD
          rw [← hf]
          refine ih (mm + 2 ^ j) y.1 _ _ _ D u3 (by omega) rfl y2 (if_neg ha) d3 (by rw [dm 91 4 (by unfold mFr; omega), ui_c (by decide)]; exact c4) (fun i hi => ?_) (fr_tr dF (fr_mo dm (fun c k w => by unfold mFr at w; unfold tFr; omega))) he
          rw [dm 103 _ (by unfold mFr; omega)]
          unfold vupd
          by_cases z : i = j
          · rw [if_pos z, z, ui_s]
          · rw [if_neg z, ui_k (by omega)]; exact cV i hi
  refine lp_inv (σ := Nat → Nat → Int32) (n := 6) (G := fun i B => mj_G Ω l false mX12_items d 0 0 Φ 0 0 3 ([some (.ref 91), some (.int a), some (.ref 103), some (.int f), some (.int m), some (.int (nI i)), none], [], mk B J)) (fun i B => (∀ j, j < i → B 103 (o + j) = usB (nI j)) ∧ fr (fun c k => c = 103 ∧ o ≤ k ∧ k < o + 6) I B) (fun i B hi hI hk => ?_) (fun B hI => ?_) 6 0 I (by omega) ⟨fun j hj => absurd hj (Nat.not_lt_zero j), fr_rf⟩
  · refine bX12_itemsB_3 hd a f m (nI i) B J ?_
    rw [hm, if_pos (show nI i < (6 : Int32) from nlt (a := i) (b := 6) hi (by omega)), hf, jn_add]
    refine ⟨mj_isk_mk _ _, ?_⟩
    simp (disch := omega) only [jn_in, jn_cl, gd_dec, jn_succ]
    have eU : (if a = 108 then usL (nI i) else usB (nI i)) = usB (nI i) := if_neg ha
    try rw [eU]
    rw [hm, hf] at hk
    refine hk _ ⟨fun j hj => ?_, fr_ui hI.2 ⟨rfl, by omega, by omega⟩⟩
    by_cases z : j = i
    · rw [z, ui_s]
    · rw [ui_k (by omega)]; exact hI.1 j (by omega)
  · refine bX12_itemsB_3 hd a f m (nI 6) B J ?_
    rw [hm, if_neg (by decide), ← hm]
    have bF : fr (tFr 103 o 6) I B := fr_mo hI.2 (fun c k w => Or.inr w)
    refine ⟨⟨by trivial, mj_isk_mk _ _⟩, t, τ, p, ⟨TA B bF, by rw [hI.2 91 3 (by (try dsimp only); omega)]; exact h3, by omega⟩, fun C hC => ⟨mj_isk_mk _ _, ?_⟩⟩
    obtain ⟨c3, cm⟩ := hC
    exact key 6 0 p 0 _ (fun j => usB (nI j)) C (by decide) (by decide) rfl hpt (if_neg ha) c3 (by rw [cm 91 4 (by unfold mFr; omega), hI.2 91 4 (by (try dsimp only); omega)]; exact h4) (fun j hj => by rw [cm 103 _ (by unfold mFr; omega)]; exact hI.1 j hj) (fr_tr bF (fr_mo cm (fun c k w => by unfold mFr at w; unfold tFr; omega))) rfl
theorem sdX12_itemsB : mj_Sd mX12_items 4 tX12_itemsB := by
  intro Ω l d hd as M Φ h
  unfold tX12_itemsB at h
  split at h
  · rename_i z_this a z_q f m
    obtain ⟨⟨rfl, rfl, hM⟩, t, τ, p, o, hp, h⟩ := h
    rw [mj_isk_of hM]
    exact mnX12_itemsB hd a f m t τ p o _ _ hp (by
      rw [mj_isk_of hM] at h
      exact h)
  · exact h.elim
