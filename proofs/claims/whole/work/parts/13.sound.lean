/-! ===== the straight instruction is the machine's ===== -/
theorem mj_lookup_mem {β : Type} {k : Nat} {v : β} : ∀ {l : List (Nat × β)}, l.lookup k = some v → (k, v) ∈ l
  | [], h => by cases h
  | (a, b) :: l, h => by
    rw [List.lookup_cons] at h
    by_cases e : k = a
    · subst e
      simp at h
      subst h
      exact List.mem_cons_self
    · have e' : (k == a) = false := by simpa using e
      rw [e'] at h
      exact List.mem_cons_of_mem _ (mj_lookup_mem h)
theorem mj_getD_nil {α : Type} {l : List (List α)} {o n : Nat} {x : α} (hn : l.length ≤ n) (h : x ∈ l.getD o []) : o < n := by
  rcases Nat.lt_or_ge o n with q | q
  · exact q
  · rw [List.getD_eq_getElem?_getD, List.getElem?_eq_none (by omega)] at h
    simp at h
def mj_clsP (ci : Nat) (q : vw_C) : Prop := (∀ w ∈ u_ws q.1 q.2.1 q.2.2, w ∈ mj_GW) ∧ (mj_kds ci).length = q.2.2 ∧
  (∀ k, k < q.2.2 → mj_ftOk ((mj_kds ci).getD k 9) (parseFieldDescriptor (q.2.1 k).2.2.1) = true ∧ (q.2.1 k).2.2.2 = decide ((mj_kds ci).getD k 9 = 3) ∧ (q.2.1 k).1 = q.1) ∧
  (∀ a, a < q.2.2 → ∀ b, b < q.2.2 → a ≠ b → (q.2.1 a).2.1 ≠ (q.2.1 b).2.1)
theorem mj_cls {ci : Nat} {q : vw_C} (h : vwCl[ci]? = some q) : mj_clsP ci q := by
  have hlt : ci < 13 := (List.getElem?_eq_some_iff.mp h).1
  have h1 := List.all_eq_true.mp mj_clsT ci (List.mem_range.mpr hlt)
  rw [h] at h1
  simp only [mj_clsB, Bool.and_eq_true, List.all_eq_true, decide_eq_true_eq, List.mem_range, Bool.or_eq_true] at h1
  obtain ⟨⟨h2, h3⟩, h4⟩ := h1
  refine ⟨fun w hw => mj_gw_in (h2 w hw), h3, fun k hk => ⟨(h4 k hk).1.1.1, (h4 k hk).1.1.2, (h4 k hk).1.2⟩, fun a ha b hb hne => ?_⟩
  rcases (h4 a ha).2 b hb with e | e
  · exact absurd e hne
  · exact e
theorem mj_flP {o idx ci k : Nat} (h : mj_fl o idx = some (ci, k)) : ∃ q, vwCl[ci]? = some q ∧ k < q.2.2 ∧ Cond.fieldLink (mj_own.getD o "") idx (q.2.1 k).1 (q.2.1 k).2.1 (q.2.1 k).2.2.1 ∈ mj_GW := by
  have hm := mj_lookup_mem h
  have ho : o < 14 := mj_getD_nil (Nat.le_of_ble_eq_true rfl) hm
  have h1 := List.all_eq_true.mp (List.all_eq_true.mp mj_flTT o (List.mem_range.mpr ho)) _ hm
  simp only [mj_flB] at h1
  cases hq : vwCl[ci]? with
  | none => rw [hq] at h1; cases h1
  | some q =>
    rw [hq] at h1
    simp only [Bool.and_eq_true, decide_eq_true_eq] at h1
    exact ⟨q, rfl, h1.1, mj_gw_in h1.2⟩
theorem mj_ldP {o idx : Nat} {x : Int32} (h : (mj_ldT.getD o []).lookup idx = some x) : Cond.constant (mj_own.getD o "") idx x ∈ mj_GW := by
  have hm := mj_lookup_mem h
  have ho : o < 14 := mj_getD_nil (Nat.le_of_ble_eq_true rfl) hm
  have h1 := List.all_eq_true.mp mj_ldTT o (List.mem_range.mpr ho)
  have h2 : mj_gw (Cond.constant (mj_own.getD o "") idx x) = true := List.all_eq_true.mp h1 (idx, x) hm
  exact mj_gw_in h2
theorem mj_l2P {o idx : Nat} {x : Int64} (h : (mj_l2T.getD o []).lookup idx = some x) : Cond.constantLong (mj_own.getD o "") idx x ∈ mj_GW := by
  have hm := mj_lookup_mem h
  have ho : o < 14 := mj_getD_nil (Nat.le_of_ble_eq_true rfl) hm
  have h1 := List.all_eq_true.mp mj_l2TT o (List.mem_range.mpr ho)
  have h2 : mj_gw (Cond.constantLong (mj_own.getD o "") idx x) = true := List.all_eq_true.mp h1 (idx, x) hm
  exact mj_gw_in h2
/-- nest words, carried by the state -/
def mj_isN : Cond → Bool
  | .methodLinkNest .. => true
  | _ => false
def mj_NW : List Cond := lw_tbl.filter mj_isN
def mj_Kc (_ : mj_Om) (U : State) : Prop := ∀ w ∈ mj_NW, va_Nw w U
/-- the frame of a method that runs: its code, class, words, world's tables -/
def mj_F (Ω : mj_Om) (p : Program) (s : State) (m : MethodId) (args : Array Value) (meth : Method) (c : Code) (o : Nat) (ini : Bool) (cc : ByteArray) (nL : Nat) (ret : Option FieldType) : Prop :=
  p.tables.exec = Jvm.exec ∧ c.code = cc ∧ c.maxLocals = nL ∧ s.vm.findClass (mj_own.getD o "") = some m.cls ∧ (∀ w ∈ mj_GW, w.before args s = true) ∧ meth.sig.returnType = ret ∧ meth.locks = false ∧ va_K Ω.1 vwCl (mj_ty Ω) s ∧ (ini = true → meth.name = "<init>") ∧ Ω.2.2.1 ≤ s.heap.size ∧ mj_Kc Ω s
/-- the heap holds the memory -/
def mj_H (Ω : mj_Om) (al : Bool) (M : mj_M) (s : State) (H : Heap) (locs : List Loc) : Prop :=
  va_P Ω.1 vwCl (mj_w Ω M) H ∧ (al = true → H.size = Ω.2.2.1 + M.1.length) ∧ va_S (mj_A Ω) s.heap H locs
section MJS
variable {p : Program} {l : Launch} {e : Env} {R : Room} {s : State} {m : MethodId} {args : Array Value} {below : List Frame} {meth : Method} {c : Code} {cells slots : Nat} {Q : State → Prop}
variable {Ω : mj_Om} {al : Bool} {o : Nat} {ini : Bool} {cc : ByteArray} {nL pc : Nat} {ret : Option FieldType} {L : List (Option Value)} {st : List Value} {M : mj_M} {H : Heap} {locs : List Loc} {ls : Array Slot}
/-- the goal at a place of the small machine -/
def mj_Wg (Ω : mj_Om) (al : Bool) (nL : Nat) (p : Program) (l : Launch) (e : Env) (R : Room) (s : State) (m : MethodId) (args : Array Value) (below : List Frame) (meth : Method) (c : Code) (cells slots : Nat) (Q : State → Prop) (pc : Nat) (S : mj_S) : Prop :=
  ∀ (H : Heap) (locs : List Loc) (ls : Array Slot), mj_H Ω al S.2.2 s H locs → mj_has Ω ls nL S.1 → W p l e R s m args below meth c H locs cells slots Q (F0 m pc ls (S.2.1.map (mj_v Ω)))
theorem mj_at {k : Nat} {v : Value} (hl : mj_has Ω ls nL L) (h : mj_ld L k = some v) : ls[k]? = some (.val (mj_v Ω v)) := by
  refine hl.2.2 k v ?_
  unfold mj_ld at h
  rw [List.getD_eq_getElem?_getD] at h
  cases he : L[k]? with
  | none => rw [he] at h; cases h
  | some z => rw [he] at h; simp at h; rw [h]
theorem mj_put1_ok {k : Nat} {v : Value} {K : List (Option Value) → Prop} (h : mj_put1 nL k L v K) : mj_ok1 L k = true ∧ k < nL ∧ K (L.set k (some v)) := by
  unfold mj_put1 at h
  cases hb : (mj_ok1 L k && decide (k < nL)) with
  | false => rw [hb] at h; exact h.elim
  | true =>
    rw [hb] at h
    simp only [Bool.and_eq_true, decide_eq_true_eq] at hb
    exact ⟨hb.1, hb.2, h⟩
theorem mj_ui_ne {I : Nat → Nat → Int32} {c k a : Nat} {x : Int32} (h : a ≠ c) : mj_ui I c k x a = I a := by
  funext b
  simp [mj_ui, h]
theorem mj_ui_self {I : Nat → Nat → Int32} {c k : Nat} {x : Int32} : mj_ui I c k x c = upd (I c) k x := by
  funext b
  simp [mj_ui, upd]
theorem mj_ul_ne {I : Nat → Nat → Int64} {c k a : Nat} {x : Int64} (h : a ≠ c) : mj_ul I c k x a = I a := by
  funext b
  simp [mj_ul, h]
theorem mj_ul_self {I : Nat → Nat → Int64} {c k : Nat} {x : Int64} : mj_ul I c k x c = vp_updL (I c) k x := by
  funext b
  simp [mj_ul, vp_updL]
theorem mj_fs_cong {M M' : mj_M} {a ci : Nat} (hI : M'.2.2.1 a = M.2.2.1 a) (hJ : M'.2.2.2 a = M.2.2.2 a) (hR : ∀ k, mj_rf M' a k = mj_rf M a k) : mj_fs Ω M' a ci = mj_fs Ω M a ci := by
  unfold mj_fs
  congr 1
  funext k kd
  unfold mj_fv
  rw [hI, hJ, hR]
theorem mj_cell_cong {M M' : mj_M} {a : Nat} {sh : Nat × Nat} (hI : M'.2.2.1 a = M.2.2.1 a) (hJ : M'.2.2.2 a = M.2.2.2 a) (hR : ∀ k, mj_rf M' a k = mj_rf M a k) : mj_cell Ω M' a sh = mj_cell Ω M a sh := by
  obtain ⟨t, n⟩ := sh
  match t with
  | 0 => simp only [mj_cell, hI]
  | 1 => simp only [mj_cell, hI]
  | 2 => simp only [mj_cell, hJ]
  | 3 => simp only [mj_cell, hR]
  | k + 4 => simp only [mj_cell, mj_fs_cong (Ω := Ω) (ci := k) hI hJ hR]
theorem mj_fs_at {M : mj_M} {a ci k : Nat} (hk : k < (mj_kds ci).length) : (mj_fs Ω M a ci)[k]? = some (mj_v Ω (mj_fv M a ((mj_kds ci).getD k 0) k)) := by
  simp [mj_fs, List.getElem?_mapIdx, hk]
theorem mj_fs_set {M M' : mj_M} {a ci k : Nat} {v : Value} (hk : k < (mj_kds ci).length) (h1 : mj_v Ω (mj_fv M' a ((mj_kds ci).getD k 0) k) = v) (h2 : ∀ j kd, j ≠ k → mj_fv M' a kd j = mj_fv M a kd j) : (mj_fs Ω M a ci).set k v = mj_fs Ω M' a ci := by
  apply List.ext_getElem?
  intro i
  by_cases hi : i = k
  · subst hi
    rw [List.getElem?_set_self (by simpa [mj_fs] using hk), mj_fs_at hk, h1]
  · rw [List.getElem?_set_ne (Ne.symm hi)]
    simp only [mj_fs, List.getElem?_mapIdx]
    cases (mj_kds ci)[i]? with
    | none => rfl
    | some kd =>
      simp only [Option.map_some]
      rw [h2 i kd hi]
theorem mj_get_ok (F : mj_F Ω p s m args meth c o ini cc nL ret) {idx : Nat} {S : mj_S} {K : mj_S → Prop} (hdg : decode cc pc = .ok (.getfield idx, 3)) (h : mj_get o idx S K) (hk : ∀ S', K S' → mj_Wg Ω al nL p l e R s m args below meth c cells slots Q (pc + 3) S') : mj_Wg Ω al nL p l e R s m args below meth c cells slots Q pc S := by
  obtain ⟨L, st, M⟩ := S
  intro H locs ls hH hl
  obtain ⟨hx, hb, hml, hown, hts, hr, hlk, hK, -⟩ := F
  simp only [mj_get] at h
  split at h
  · rename_i a st' ci k hfl
    split at h
    · rename_i hd
      have hsh := of_decide_eq_true hd
      obtain ⟨q, hq, hkq, hlink⟩ := mj_flP hfl
      have hC := mj_cls hq
      have he := mj_w_at (Ω := Ω) hsh
      exact va_get (D := Ω.1) (ci := ci) (C := q.1) (T := q.2.1) (N := q.2.2) (Ts := mj_GW) hx hb hts hC.1 hown hK hH.1 a he hq k hkq (hts _ hlink) (fun _ h => h) (mj_fs_at (by rw [hC.2.1]; exact hkq)) hdg (hk _ h H locs ls hH hl)
    · exact h.elim
  · exact h.elim
end MJS
