/-! ===== words of the tables that are good everywhere; methods as data: the words of it ===== -/
def mj_GW : List Cond := lw_tbl.filter goodWord
def mj_gw (w : Cond) : Bool := decide (w ∈ lw_tbl) && goodWord w
theorem mj_gw_in {w : Cond} (h : mj_gw w = true) : w ∈ mj_GW := by
  simp only [mj_gw, Bool.and_eq_true, decide_eq_true_eq] at h
  exact List.mem_filter.mpr h
/-- how many bytes an instruction of this kind takes -/
def mj_len : Instr → Nat
  | .bipush _ | .iload _ | .lload _ | .aload _ | .istore _ | .astore _ | .ldc _ => 2
  | .sipush _ | .ldc_w _ | .ldc2_w _ | .iinc _ _ | .getfield _ | .putfield _ => 3
  | _ => 1
/-- class, constructor?, bytes, locals, answer's type, name -/
abbrev mj_m : Type := Nat × Bool × ByteArray × Nat × Option FieldType × MethodName
def mj_il : Instr → Nat
  | .goto _ | .ifCond _ _ | .if_icmp _ _ | .invokevirtual _ | .invokestatic _ | .invokespecial _ | .getstatic _ | .new _ => 3
  | i => mj_len i
def mj_isSw : Instr → Bool
  | .tableswitch _ _ _ _ | .lookupswitch _ _ => true
  | _ => false
def mj_pd (cc : ByteArray) (P : List (Nat × Instr × Nat)) : Prop := ∀ e ∈ P, decode cc e.1 = .ok (e.2.1, e.2.2) ∧ (mj_isSw e.2.1 = true ∨ e.2.2 = mj_il e.2.1)
/-- what stands in the tables of a method that is called by a name -/
def mj_mf (μ : mj_m) : Prop := Cond.code μ.2.2.2.2.2 μ.2.2.1 μ.2.2.2.1 μ.2.2.2.2.1 ∈ mj_GW ∧ Cond.initialized μ.2.2.2.2.2.cls ∈ mj_GW ∧ μ.2.2.2.1 ≤ 40 ∧ μ.2.2.2.2.2.cls ≠ "java/lang/invoke/MethodHandle" ∧ μ.2.2.2.2.2.cls ≠ "java/lang/invoke/VarHandle"
theorem mj_all {α : Type} {l : List α} {f : α → Bool} {e : α} (h : l.all f = true) (k : Nat) (hk : l[k]? = some e) : f e = true := List.all_eq_true.mp h e (List.mem_of_getElem? hk)
theorem mj_t1 {w : Cond} (j : Nat) (h : tables_1_1[j]? = some w) (hg : goodWord w = true) : w ∈ mj_GW := List.mem_filter.mpr ⟨List.mem_append_right _ (List.mem_append_left _ (List.mem_of_getElem? h)), hg⟩
theorem mj_t2 {w : Cond} (j : Nat) (h : tables_1_2[j]? = some w) (hg : goodWord w = true) : w ∈ mj_GW := List.mem_filter.mpr ⟨List.mem_append_right _ (List.mem_append_right _ (List.mem_append_left _ (List.mem_of_getElem? h))), hg⟩
theorem mj_t3 {w : Cond} (j : Nat) (h : tables_1_3[j]? = some w) (hg : goodWord w = true) : w ∈ mj_GW := List.mem_filter.mpr ⟨List.mem_append_right _ (List.mem_append_right _ (List.mem_append_right _ (List.mem_append_left _ (List.mem_of_getElem? h)))), hg⟩
theorem mj_t4 {w : Cond} (j : Nat) (h : tables_1_4[j]? = some w) (hg : goodWord w = true) : w ∈ mj_GW := List.mem_filter.mpr ⟨List.mem_append_right _ (List.mem_append_right _ (List.mem_append_right _ (List.mem_append_right _ (List.mem_append_left _ (List.mem_of_getElem? h))))), hg⟩
theorem mj_t5 {w : Cond} (j : Nat) (h : tables_1_5[j]? = some w) (hg : goodWord w = true) : w ∈ mj_GW := List.mem_filter.mpr ⟨List.mem_append_right _ (List.mem_append_right _ (List.mem_append_right _ (List.mem_append_right _ (List.mem_append_right _ (List.mem_append_left _ (List.mem_of_getElem? h)))))), hg⟩
theorem mj_t6 {w : Cond} (j : Nat) (h : tables_1_6[j]? = some w) (hg : goodWord w = true) : w ∈ mj_GW := List.mem_filter.mpr ⟨List.mem_append_right _ (List.mem_append_right _ (List.mem_append_right _ (List.mem_append_right _ (List.mem_append_right _ (List.mem_append_right _ (List.mem_append_left _ (List.mem_of_getElem? h))))))), hg⟩
theorem mj_t7 {w : Cond} (j : Nat) (h : tables_1_7[j]? = some w) (hg : goodWord w = true) : w ∈ mj_GW := List.mem_filter.mpr ⟨List.mem_append_right _ (List.mem_append_right _ (List.mem_append_right _ (List.mem_append_right _ (List.mem_append_right _ (List.mem_append_right _ (List.mem_append_right _ (List.mem_append_left _ (List.mem_of_getElem? h)))))))), hg⟩
theorem mj_t8 {w : Cond} (j : Nat) (h : tables_1_8[j]? = some w) (hg : goodWord w = true) : w ∈ mj_GW := List.mem_filter.mpr ⟨List.mem_append_right _ (List.mem_append_right _ (List.mem_append_right _ (List.mem_append_right _ (List.mem_append_right _ (List.mem_append_right _ (List.mem_append_right _ (List.mem_append_right _ (List.mem_of_getElem? h)))))))), hg⟩
theorem mj_p1 {w : Cond} (j : Nat) (h : (k2_sels lw_privs_1)[j]? = some w) (hg : goodWord w = true) : w ∈ mj_GW := by
  have h1 : w ∈ k2_sels lw_privs := by
    unfold k2_sels at h ⊢
    obtain ⟨q, hq, rfl⟩ := List.mem_map.mp (List.mem_of_getElem? h)
    exact List.mem_map.mpr ⟨q, List.mem_append_left _ hq, rfl⟩
  exact List.mem_filter.mpr ⟨List.mem_append_left _ h1, hg⟩
theorem mj_p2 {w : Cond} (j : Nat) (h : (k2_sels lw_privs_2)[j]? = some w) (hg : goodWord w = true) : w ∈ mj_GW := by
  have h1 : w ∈ k2_sels lw_privs := by
    unfold k2_sels at h ⊢
    obtain ⟨q, hq, rfl⟩ := List.mem_map.mp (List.mem_of_getElem? h)
    exact List.mem_map.mpr ⟨q, List.mem_append_right _ (List.mem_append_left _ hq), rfl⟩
  exact List.mem_filter.mpr ⟨List.mem_append_left _ h1, hg⟩
theorem mj_p3 {w : Cond} (j : Nat) (h : (k2_sels lw_privs_3)[j]? = some w) (hg : goodWord w = true) : w ∈ mj_GW := by
  have h1 : w ∈ k2_sels lw_privs := by
    unfold k2_sels at h ⊢
    obtain ⟨q, hq, rfl⟩ := List.mem_map.mp (List.mem_of_getElem? h)
    exact List.mem_map.mpr ⟨q, List.mem_append_right _ (List.mem_append_right _ (List.mem_append_left _ hq)), rfl⟩
  exact List.mem_filter.mpr ⟨List.mem_append_left _ h1, hg⟩
theorem mj_p4 {w : Cond} (j : Nat) (h : (k2_sels lw_privs_4)[j]? = some w) (hg : goodWord w = true) : w ∈ mj_GW := by
  have h1 : w ∈ k2_sels lw_privs := by
    unfold k2_sels at h ⊢
    obtain ⟨q, hq, rfl⟩ := List.mem_map.mp (List.mem_of_getElem? h)
    exact List.mem_map.mpr ⟨q, List.mem_append_right _ (List.mem_append_right _ (List.mem_append_right _ (List.mem_append_left _ hq))), rfl⟩
  exact List.mem_filter.mpr ⟨List.mem_append_left _ h1, hg⟩
theorem mj_p5 {w : Cond} (j : Nat) (h : (k2_sels lw_privs_5)[j]? = some w) (hg : goodWord w = true) : w ∈ mj_GW := by
  have h1 : w ∈ k2_sels lw_privs := by
    unfold k2_sels at h ⊢
    obtain ⟨q, hq, rfl⟩ := List.mem_map.mp (List.mem_of_getElem? h)
    exact List.mem_map.mpr ⟨q, List.mem_append_right _ (List.mem_append_right _ (List.mem_append_right _ (List.mem_append_right _ (List.mem_append_left _ hq)))), rfl⟩
  exact List.mem_filter.mpr ⟨List.mem_append_left _ h1, hg⟩
theorem mj_p6 {w : Cond} (j : Nat) (h : (k2_sels lw_privs_6)[j]? = some w) (hg : goodWord w = true) : w ∈ mj_GW := by
  have h1 : w ∈ k2_sels lw_privs := by
    unfold k2_sels at h ⊢
    obtain ⟨q, hq, rfl⟩ := List.mem_map.mp (List.mem_of_getElem? h)
    exact List.mem_map.mpr ⟨q, List.mem_append_right _ (List.mem_append_right _ (List.mem_append_right _ (List.mem_append_right _ (List.mem_append_right _ (List.mem_append_left _ hq))))), rfl⟩
  exact List.mem_filter.mpr ⟨List.mem_append_left _ h1, hg⟩
theorem mj_p7 {w : Cond} (j : Nat) (h : (k2_sels lw_privs_7)[j]? = some w) (hg : goodWord w = true) : w ∈ mj_GW := by
  have h1 : w ∈ k2_sels lw_privs := by
    unfold k2_sels at h ⊢
    obtain ⟨q, hq, rfl⟩ := List.mem_map.mp (List.mem_of_getElem? h)
    exact List.mem_map.mpr ⟨q, List.mem_append_right _ (List.mem_append_right _ (List.mem_append_right _ (List.mem_append_right _ (List.mem_append_right _ (List.mem_append_right _ (hq)))))), rfl⟩
  exact List.mem_filter.mpr ⟨List.mem_append_left _ h1, hg⟩
