/-! ===== the straight instruction is the machine's ===== -/
theorem mj_lookup_mem {β : Type} {k : Nat} {v : β} : ∀ {l : List (Nat × β)}, l.lookup k = some v → (k, v) ∈ l
  | [], h => by cases h
  | (a, b) :: l, h => by
    rw [List.lookup_cons] at h
    by_cases e : k = a
    · subst e
      simp at h
      subst h
      exact List.mem_cons_self
    · have e' : (k == a) = false := by simpa using e
      rw [e'] at h
      exact List.mem_cons_of_mem _ (mj_lookup_mem h)
theorem mj_getD_nil {α : Type} {l : List (List α)} {o n : Nat} {x : α} (hn : l.length ≤ n) (h : x ∈ l.getD o []) : o < n := by
  rcases Nat.lt_or_ge o n with q | q
  · exact q
  · rw [List.getD_eq_getElem?_getD, List.getElem?_eq_none (by omega)] at h
    simp at h
def mj_clsP (ci : Nat) (q : vw_C) : Prop := (∀ w ∈ u_ws q.1 q.2.1 q.2.2, w ∈ mj_GW) ∧ (mj_kds ci).length = q.2.2 ∧
  (∀ k, k < q.2.2 → mj_ftOk ((mj_kds ci).getD k 9) (parseFieldDescriptor (q.2.1 k).2.2.1) = true ∧ (q.2.1 k).2.2.2 = decide ((mj_kds ci).getD k 9 = 3) ∧ (q.2.1 k).1 = q.1) ∧
  (∀ a, a < q.2.2 → ∀ b, b < q.2.2 → a ≠ b → (q.2.1 a).2.1 ≠ (q.2.1 b).2.1)
theorem mj_cls {ci : Nat} {q : vw_C} (h : vwCl[ci]? = some q) : mj_clsP ci q := by
  have hlt : ci < 13 := (List.getElem?_eq_some_iff.mp h).1
  have h1 := List.all_eq_true.mp mj_clsT ci (List.mem_range.mpr hlt)
  rw [h] at h1
  simp only [mj_clsB, Bool.and_eq_true, List.all_eq_true, decide_eq_true_eq, List.mem_range, Bool.or_eq_true] at h1
  obtain ⟨⟨h2, h3⟩, h4⟩ := h1
  refine ⟨fun w hw => mj_gw_in (h2 w hw), h3, fun k hk => ⟨(h4 k hk).1.1.1, (h4 k hk).1.1.2, (h4 k hk).1.2⟩, fun a ha b hb hne => ?_⟩
  rcases (h4 a ha).2 b hb with e | e
  · exact absurd e hne
  · exact e
theorem mj_flP {o idx ci k : Nat} (h : mj_fl o idx = some (ci, k)) : ∃ q, vwCl[ci]? = some q ∧ k < q.2.2 ∧ Cond.fieldLink (mj_own.getD o "") idx (q.2.1 k).1 (q.2.1 k).2.1 (q.2.1 k).2.2.1 ∈ mj_GW := by
  have hm := mj_lookup_mem h
  have ho : o < 14 := mj_getD_nil (Nat.le_of_ble_eq_true rfl) hm
  have h1 := List.all_eq_true.mp (List.all_eq_true.mp mj_flTT o (List.mem_range.mpr ho)) _ hm
  simp only [mj_flB] at h1
  cases hq : vwCl[ci]? with
  | none => rw [hq] at h1; cases h1
  | some q =>
    rw [hq] at h1
    simp only [Bool.and_eq_true, decide_eq_true_eq] at h1
    exact ⟨q, rfl, h1.1, mj_gw_in h1.2⟩
theorem mj_ldP {o idx : Nat} {x : Int32} (h : (mj_ldT.getD o []).lookup idx = some x) : Cond.constant (mj_own.getD o "") idx x ∈ mj_GW := by
  have hm := mj_lookup_mem h
  have ho : o < 14 := mj_getD_nil (Nat.le_of_ble_eq_true rfl) hm
  have h1 := List.all_eq_true.mp mj_ldTT o (List.mem_range.mpr ho)
  have h2 : mj_gw (Cond.constant (mj_own.getD o "") idx x) = true := List.all_eq_true.mp h1 (idx, x) hm
  exact mj_gw_in h2
theorem mj_l2P {o idx : Nat} {x : Int64} (h : (mj_l2T.getD o []).lookup idx = some x) : Cond.constantLong (mj_own.getD o "") idx x ∈ mj_GW := by
  have hm := mj_lookup_mem h
  have ho : o < 14 := mj_getD_nil (Nat.le_of_ble_eq_true rfl) hm
  have h1 := List.all_eq_true.mp mj_l2TT o (List.mem_range.mpr ho)
  have h2 : mj_gw (Cond.constantLong (mj_own.getD o "") idx x) = true := List.all_eq_true.mp h1 (idx, x) hm
  exact mj_gw_in h2
/-- nest words, carried by the state -/
def mj_isN : Cond → Bool
  | .methodLinkNest .. => true
  | .arrayOver _ => true
  | .declares _ => true
  | .castable _ _ => true
  | _ => false
theorem mj_AOw {ty : FieldType} {s U : State} (hal : s.vm.Alike U.vm) (h : va_Nw (.arrayOver ty) s) : va_Nw (.arrayOver ty) U := by
  have h1 : (Cond.arrayOver ty).before #[] (s.setVm U.vm) = true := (Cond.arrayOver_setVmC (args := #[]) (s := s) hal ty).trans h
  exact h1
def mj_NW : List Cond := lw_tbl.filter mj_isN
def mj_Kz (Ω : mj_Om) (U : State) (H : Heap) : Prop :=
  (∀ (k : Nat) (q : String × Nat × List Int32), mj_kI[k]? = some q → va_Z RX10 q.1 "[I" (.ref (Ω.2.2.2 (1000 + k))) (mj_A Ω) U H ∧ va_T .int (Ω.2.2.2 (1000 + k)) q.2.2.length (fun j => .int (q.2.2.getD j 0)) (mj_A Ω) U H) ∧
  (va_Z "java/lang/String" "COMPACT_STRINGS" "Z" (.int 1) (mj_A Ω) U H ∧ vx_Zq Bundle.tN "UNASSIGNED_STACK" Bundle.steD (mj_A Ω) U H ∧ vx_Zq Bundle.tN "SUPPRESSED_SENTINEL" Bundle.listD (mj_A Ω) U H) ∧
  (∀ (k : Nat) (q : Nat × Nat × String × List Int32), mj_kS[k]? = some q → va_O "java/lang/String" (Ω.2.2.2 (1010 + k)) (mj_A Ω) U H ∧ va_OF "java/lang/String" "coder" "B" (.int 0) (Ω.2.2.2 (1010 + k)) (mj_A Ω) U H ∧ va_OF "java/lang/String" "value" "[B" (.ref (Ω.2.2.2 (1020 + k))) (Ω.2.2.2 (1010 + k)) (mj_A Ω) U H ∧ va_T .byte (Ω.2.2.2 (1020 + k)) q.2.2.2.length (fun j => .int (q.2.2.2.getD j 0)) (mj_A Ω) U H)
def mj_Kr (Ω : mj_Om) (U : State) : Prop := ∀ (k : Nat) (q : Nat × Nat × String × List Int32), mj_kS[k]? = some q → vk_R (mj_own.getD q.1 "") q.2.1 q.2.2.1 (Ω.2.2.2 (1010 + k)) U
def mj_Kc (Ω : mj_Om) (U : State) : Prop := (∀ w ∈ mj_NW, va_Nw w U) ∧ mj_Kz Ω U U.heap ∧ mj_Kr Ω U
theorem mj_Kz_moved {Ω : mj_Om} {u U : State} {H : Heap} (hvm : u.vm.Alike U.vm) (h : mj_Kz Ω u H) : mj_Kz Ω U H :=
  ⟨fun k q hq => ⟨va_Z.moved hvm (h.1 k q hq).1, va_T.moved hvm (h.1 k q hq).2⟩, ⟨va_Z.moved hvm h.2.1.1, vx_Zq.moved hvm h.2.1.2.1, vx_Zq.moved hvm h.2.1.2.2⟩, fun k q hq => ⟨va_O.moved hvm (h.2.2 k q hq).1, va_OF.moved hvm (h.2.2 k q hq).2.1, va_OF.moved hvm (h.2.2 k q hq).2.2.1, va_T.moved hvm (h.2.2 k q hq).2.2.2⟩⟩
theorem mj_Kz_kept {Ω : mj_Om} {U : State} {H H1 : Heap} (h : mj_Kz Ω U H) (hq : ∀ a : Nat, a < H.size → ¬ mj_A Ω a → H1[a]? = H[a]?) : mj_Kz Ω U H1 :=
  ⟨fun k q hk => ⟨(h.1 k q hk).1.kept hq, (h.1 k q hk).2.kept hq⟩, ⟨h.2.1.1.kept hq, h.2.1.2.1.kept hq, h.2.1.2.2.kept hq⟩, fun k q hk => ⟨(h.2.2 k q hk).1.kept hq, (h.2.2 k q hk).2.1.kept hq, (h.2.2 k q hk).2.2.1.kept hq, (h.2.2 k q hk).2.2.2.kept hq⟩⟩
theorem mj_Kc_warm {Ω : mj_Om} {s U : State} (h : mj_Kc Ω s) (hW : s.WarmedH U.vm) (hq : ∀ a : Nat, a < s.heap.size → ¬ mj_A Ω a → U.heap[a]? = s.heap[a]?) : mj_Kc Ω U := by
  refine ⟨fun w hw => ?_, mj_Kz_moved hW.alike (mj_Kz_kept h.2.1 hq), fun k q hk => vk_R.warm hW (h.2.2 k q hk)⟩
  have h1 := h.1 w hw
  have h2 := (List.mem_filter.mp hw).2
  cases w <;> first | (simp [mj_isN] at h2; done) | exact va_Nw.warmM hW h1 | exact mj_AOw hW.alike h1 | exact va_Nw.warmD hW h1 | exact va_Nw.warmC hW h1
theorem mj_Kc_same {Ω : mj_Om} {s U : State} (h : mj_Kc Ω s) (hv : U.vm = s.vm) (hh : U.heap = s.heap) : mj_Kc Ω U := by
  refine ⟨fun w hw => ?_, ?_, fun k q hk => vk_R.same hv (h.2.2 k q hk)⟩
  · have h1 := h.1 w hw
    have h2 := (List.mem_filter.mp hw).2
    cases w <;> first | (simp [mj_isN] at h2; done) | exact va_Nw.same rfl hv.symm h1 | exact mj_AOw (by rw [hv]; exact Vm.Alike.refl s.vm) h1
  · rw [hh]
    exact mj_Kz_moved (by rw [hv]; exact Vm.Alike.refl s.vm) h.2.1
/-- the frame of a method that runs: its code, class, words, world's tables -/
def mj_F (Ω : mj_Om) (p : Program) (s : State) (m : MethodId) (args : Array Value) (meth : Method) (c : Code) (o : Nat) (ini : Bool) (cc : ByteArray) (nL : Nat) (ret : Option FieldType) : Prop :=
  p.tables.exec = Jvm.exec ∧ c.code = cc ∧ c.maxLocals = nL ∧ s.vm.findClass (mj_own.getD o "") = some m.cls ∧ (∀ w ∈ mj_GW, w.before args s = true) ∧ meth.sig.returnType = ret ∧ meth.locks = false ∧ va_K Ω.1 vwCl (mj_ty Ω) s ∧ (ini = true → meth.name = "<init>") ∧ Ω.2.2.1 ≤ s.heap.size ∧ mj_Kc Ω s
/-- the heap holds the memory -/
def mj_H (Ω : mj_Om) (al : Bool) (M : mj_M) (s : State) (H : Heap) (locs : List Loc) : Prop :=
  va_P Ω.1 vwCl (mj_w Ω M) H ∧ (al = true → H.size = Ω.2.2.1 + M.1.length) ∧ va_S (mj_A Ω) s.heap H locs
section MJS
variable {p : Program} {l : Launch} {e : Env} {R : Room} {s : State} {m : MethodId} {args : Array Value} {below : List Frame} {meth : Method} {c : Code} {cells slots : Nat} {Q : State → Prop}
variable {Ω : mj_Om} {al : Bool} {o : Nat} {ini : Bool} {cc : ByteArray} {nL pc : Nat} {ret : Option FieldType} {L : List (Option Value)} {st : List Value} {M : mj_M} {H : Heap} {locs : List Loc} {ls : Array Slot}
/-- the goal at a place of the small machine -/
def mj_Wg (Ω : mj_Om) (al : Bool) (nL : Nat) (p : Program) (l : Launch) (e : Env) (R : Room) (s : State) (m : MethodId) (args : Array Value) (below : List Frame) (meth : Method) (c : Code) (cells slots : Nat) (Q : State → Prop) (pc : Nat) (S : mj_S) : Prop :=
  ∀ (H : Heap) (locs : List Loc) (ls : Array Slot), mj_H Ω al S.2.2 s H locs → mj_has Ω ls nL S.1 → W p l e R s m args below meth c H locs cells slots Q (F0 m pc ls (S.2.1.map (mj_v Ω)))
theorem mj_at {k : Nat} {v : Value} (hl : mj_has Ω ls nL L) (h : mj_ld L k = some v) : ls[k]? = some (.val (mj_v Ω v)) := by
  refine hl.2.2 k v ?_
  unfold mj_ld at h
  rw [List.getD_eq_getElem?_getD] at h
  cases he : L[k]? with
  | none => rw [he] at h; cases h
  | some z => rw [he] at h; simp at h; rw [h]
theorem mj_put1_ok {k : Nat} {v : Value} {K : List (Option Value) → Prop} (h : mj_put1 nL k L v K) : mj_ok1 L k = true ∧ k < nL ∧ K (L.set k (some v)) := by
  unfold mj_put1 at h
  cases hb : (mj_ok1 L k && decide (k < nL)) with
  | false => rw [hb] at h; exact h.elim
  | true =>
    rw [hb] at h
    simp only [Bool.and_eq_true, decide_eq_true_eq] at hb
    exact ⟨hb.1, hb.2, h⟩
theorem mj_ui_ne {I : Nat → Nat → Int32} {c k a : Nat} {x : Int32} (h : a ≠ c) : mj_ui I c k x a = I a := by
  funext b
  simp [mj_ui, h]
theorem mj_ui_self {I : Nat → Nat → Int32} {c k : Nat} {x : Int32} : mj_ui I c k x c = upd (I c) k x := by
  funext b
  simp [mj_ui, upd]
theorem mj_ul_ne {I : Nat → Nat → Int64} {c k a : Nat} {x : Int64} (h : a ≠ c) : mj_ul I c k x a = I a := by
  funext b
  simp [mj_ul, h]
theorem mj_ul_self {I : Nat → Nat → Int64} {c k : Nat} {x : Int64} : mj_ul I c k x c = vp_updL (I c) k x := by
  funext b
  simp [mj_ul, vp_updL]
theorem mj_fs_cong {M M' : mj_M} {a ci : Nat} (hI : M'.2.2.1 a = M.2.2.1 a) (hJ : M'.2.2.2 a = M.2.2.2 a) (hR : ∀ k, mj_rf M' a k = mj_rf M a k) : mj_fs Ω M' a ci = mj_fs Ω M a ci := by
  unfold mj_fs
  congr 1
  funext k kd
  unfold mj_fv
  rw [hI, hJ, hR]
theorem mj_cell_cong {M M' : mj_M} {a : Nat} {sh : Nat × Nat} (hI : M'.2.2.1 a = M.2.2.1 a) (hJ : M'.2.2.2 a = M.2.2.2 a) (hR : ∀ k, mj_rf M' a k = mj_rf M a k) : mj_cell Ω M' a sh = mj_cell Ω M a sh := by
  obtain ⟨t, n⟩ := sh
  match t with
  | 0 => simp only [mj_cell, hI]
  | 1 => simp only [mj_cell, hI]
  | 2 => simp only [mj_cell, hJ]
  | 3 => simp only [mj_cell, hR]
  | k + 4 => simp only [mj_cell, mj_fs_cong (Ω := Ω) (ci := k) hI hJ hR]
theorem mj_fs_at {M : mj_M} {a ci k : Nat} (hk : k < (mj_kds ci).length) : (mj_fs Ω M a ci)[k]? = some (mj_v Ω (mj_fv M a ((mj_kds ci).getD k 0) k)) := by
  simp [mj_fs, List.getElem?_mapIdx, hk]
theorem mj_fs_set {M M' : mj_M} {a ci k : Nat} {v : Value} (hk : k < (mj_kds ci).length) (h1 : mj_v Ω (mj_fv M' a ((mj_kds ci).getD k 0) k) = v) (h2 : ∀ j kd, j ≠ k → mj_fv M' a kd j = mj_fv M a kd j) : (mj_fs Ω M a ci).set k v = mj_fs Ω M' a ci := by
  apply List.ext_getElem?
  intro i
  by_cases hi : i = k
  · subst hi
    rw [List.getElem?_set_self (by simpa [mj_fs] using hk), mj_fs_at hk, h1]
  · rw [List.getElem?_set_ne (Ne.symm hi)]
    simp only [mj_fs, List.getElem?_mapIdx]
    cases (mj_kds ci)[i]? with
    | none => rfl
    | some kd =>
      simp only [Option.map_some]
      rw [h2 i kd hi]
theorem mj_get_ok (F : mj_F Ω p s m args meth c o ini cc nL ret) {idx : Nat} {S : mj_S} {K : mj_S → Prop} (hdg : decode cc pc = .ok (.getfield idx, 3)) (h : mj_get o idx S K) (hk : ∀ S', K S' → mj_Wg Ω al nL p l e R s m args below meth c cells slots Q (pc + 3) S') : mj_Wg Ω al nL p l e R s m args below meth c cells slots Q pc S := by
  obtain ⟨L, st, M⟩ := S
  intro H locs ls hH hl
  obtain ⟨hx, hb, hml, hown, hts, hr, hlk, hK, hin, hbs, hKc⟩ := F
  simp only [mj_get] at h
  split at h
  · rename_i a st' ci k hfl
    split at h
    · rename_i hd
      have hsh := of_decide_eq_true hd
      obtain ⟨q, hq, hkq, hlink⟩ := mj_flP hfl
      have hC := mj_cls hq
      have he := mj_w_at (Ω := Ω) hsh
      exact va_get (D := Ω.1) (ci := ci) (C := q.1) (T := q.2.1) (N := q.2.2) (Ts := mj_GW) hx hb hts hC.1 hown hK hH.1 a he hq k hkq (hts _ hlink) (fun _ h => h) (mj_fs_at (by rw [hC.2.1]; exact hkq)) hdg (hk _ h H locs ls hH hl)
    · exact h.elim
  · rename_i a st' hfl
    split at h
    · rename_i v hsf
      simp only [mj_sf] at hsf
      split at hsf
      · rename_i hd
        obtain ⟨ho, h1, h2⟩ := of_decide_eq_true hd
        obtain ⟨i, rfl⟩ : ∃ i : Nat, a = 1010 + i := ⟨a - 1010, (Nat.add_sub_cancel' h1).symm⟩
        have hi : i < mj_kS.length := Nat.lt_of_add_lt_add_left (n := 1010) h2
        have hq := hKc.2.1.2.2 i _ (List.getElem?_eq_getElem hi)
        have hown' : s.vm.findClass RJ0 = some m.cls := by rw [← hown, ho]; rfl
        have hqa : mj_q Ω (1010 + i) = Ω.2.2.2 (1010 + i) := by simp [mj_q]; omega
        split at hsf
        · cases hsf
          have k9 := hk _ h H locs ls hH hl
          have e9 : mj_v Ω (.ref (1010 + i + 10)) = .ref (Ω.2.2.2 (1020 + i)) := by
            simp only [mj_v, mj_q]
            rw [if_neg (by omega), Nat.add_right_comm 1010 i 10]
          rw [List.map_cons, e9] at k9
          have := vk_getf (v := .ref (Ω.2.2.2 (1020 + i))) hx hb hq.2.2.1 hH.2.2 hown' (hts _ mj_gsV) (fun _ h => h) hdg k9
          rw [← hqa] at this
          exact this
        · cases hsf
          have := vk_getf (v := .int 0) hx hb hq.2.1 hH.2.2 hown' (hts _ mj_gsD) (fun _ h => h) hdg (hk _ h H locs ls hH hl)
          rw [← hqa] at this
          exact this
        · cases hsf
      · cases hsf
    · exact h.elim
  · exact h.elim
/-- static fields -/
theorem mj_gst_ok (F : mj_F Ω p s m args meth c o ini cc nL ret) {idx : Nat} {S : mj_S} {K : mj_S → Prop} (hdg : decode cc pc = .ok (.getstatic idx, 3)) (h : mj_gst o idx S K) (hk : ∀ S', K S' → mj_Wg Ω al nL p l e R s m args below meth c cells slots Q (pc + 3) S') : mj_Wg Ω al nL p l e R s m args below meth c cells slots Q pc S := by
  obtain ⟨L, st, M⟩ := S
  intro H locs ls hH hl
  obtain ⟨hx, hb, hml, hown, hts, hr, hlk, hK, hin, hbs, hKc⟩ := F
  simp only [mj_gst] at h
  split at h
  · rename_i v hv
    unfold mj_gs at hv
    split at hv
    · obtain ⟨cc9, hc9, rfl⟩ := Option.map_eq_some_iff.mp hv
      have hm := mj_lookup_mem hc9
      obtain ⟨k, hk6, hkq, hc⟩ : ∃ k, k < 6 ∧ (mj_kI[k]?).map (fun q => q.2.1) = some idx ∧ cc9 = 1000 + k := by
        simp only [List.mem_cons, Prod.mk.injEq, List.not_mem_nil, or_false] at hm
        rcases hm with ⟨rfl, rfl⟩ | ⟨rfl, rfl⟩ | ⟨rfl, rfl⟩ | ⟨rfl, rfl⟩ | ⟨rfl, rfl⟩ | ⟨rfl, rfl⟩
        · exact ⟨0, by decide, by decide, rfl⟩
        · exact ⟨1, by decide, by decide, rfl⟩
        · exact ⟨2, by decide, by decide, rfl⟩
        · exact ⟨3, by decide, by decide, rfl⟩
        · exact ⟨4, by decide, by decide, rfl⟩
        · exact ⟨5, by decide, by decide, rfl⟩
      subst hc
      have hlen : k < mj_kI.length := hk6
      have hq := hKc.2.1.1 k _ (List.getElem?_eq_getElem hlen)
      have hid : (mj_kI[k]).2.1 = idx := by
        rw [List.getElem?_eq_getElem hlen] at hkq
        exact Option.some.inj hkq
      have hT := List.all_eq_true.mp mj_gsT k (List.mem_range.mpr hk6)
      rw [List.getElem?_eq_getElem hlen] at hT
      have hlink := hts _ (mj_gw_in hT)
      rw [hid] at hlink
      have k9 := hk _ h H locs ls hH hl
      have e9 : mj_v Ω (.ref (1000 + k)) = .ref (Ω.2.2.2 (1000 + k)) := by
        simp only [mj_v, mj_q]
        rw [if_neg (by omega)]
      rw [List.map_cons, e9] at k9
      exact va_gets hx hb hq.1 hH.2.2 hown hlink (fun _ h => h) hdg k9
    · split at hv
      · rename_i hi
        cases hv
        subst hi
        exact va_gets (v := .int 1) hx hb hKc.2.1.2.1.1 hH.2.2 hown (hts _ mj_gsC) (fun _ h => h) hdg (hk _ h H locs ls hH hl)
      · cases hv
    · cases hv
  · exact h.elim
/-- reading a constant array -/
theorem mj_kc_T (hKc : mj_Kc Ω s) {c0 : Nat} {kd : Nat} {xs : List Int32} (h : mj_kc c0 = some (kd, xs)) : mj_q Ω c0 = Ω.2.2.2 c0 ∧ ((kd = 0 ∧ va_T .int (Ω.2.2.2 c0) xs.length (fun j => .int (xs.getD j 0)) (mj_A Ω) s s.heap) ∨ (kd = 1 ∧ va_T .byte (Ω.2.2.2 c0) xs.length (fun j => .int (xs.getD j 0)) (mj_A Ω) s s.heap)) := by
  unfold mj_kc at h
  split at h
  · cases h
  · rename_i h1
    refine ⟨by simp [mj_q, h1], ?_⟩
    split at h
    · rename_i h2
      obtain ⟨q, hq, e⟩ := Option.map_eq_some_iff.mp h
      cases e
      refine Or.inl ⟨rfl, ?_⟩
      have := (hKc.2.1.1 _ q hq).2
      rw [show 1000 + (c0 - 1000) = c0 by omega] at this
      exact this
    · split at h
      · cases h
      · rename_i h2 h3
        obtain ⟨q, hq, e⟩ := Option.map_eq_some_iff.mp h
        cases e
        refine Or.inr ⟨rfl, ?_⟩
        have := (hKc.2.1.2.2 _ q hq).2.2.2
        rw [show 1020 + (c0 - 1020) = c0 by omega] at this
        exact this
end MJS
