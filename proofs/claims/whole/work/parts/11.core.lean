/-! ===== THE SMALL MACHINE: memory, locals, one straight instruction ===== -/
/-- shapes of the cells (0 int[], 1 boolean[], 2 long[], 3 int[][], 4 + class: an object); references; ints; longs -/
abbrev mj_M : Type := List (Nat × Nat) × List ((Nat × Nat) × Nat) × (Nat → Nat → Int32) × (Nat → Nat → Int64)
/-- the tables' numbers, the array classes, the first address, addresses of constants -/
abbrev mj_Om : Type := va_G × (Nat → ClassId) × Nat × (Nat → Nat)
def mj_q (Ω : mj_Om) (c : Nat) : Nat := if c < 1000 then Ω.2.2.1 + c else Ω.2.2.2 c
def mj_v (Ω : mj_Om) : Value → Value
  | .ref c => .ref (mj_q Ω c)
  | v => v
def mj_A (Ω : mj_Om) : Nat → Prop := fun a => Ω.2.2.1 ≤ a
def mj_kds (ci : Nat) : List Nat := mj_kdT.getD ci []
def mj_rf (M : mj_M) (c k : Nat) : Option Nat := M.2.1.lookup (c, k)
def mj_rv : Option Nat → Value
  | none => .null
  | some a => .ref a
def mj_fv (M : mj_M) (c kd k : Nat) : Value := match kd with
  | 2 => .long (M.2.2.2 c k)
  | 3 => mj_rv (mj_rf M c k)
  | _ => .int (M.2.2.1 c k)
def mj_fs (Ω : mj_Om) (M : mj_M) (c ci : Nat) : List Value := (mj_kds ci).mapIdx (fun k kd => mj_v Ω (mj_fv M c kd k))
def mj_cell (Ω : mj_Om) (M : mj_M) (c : Nat) (sh : Nat × Nat) : va_E := match sh.1 with
  | 0 => .inl (Ω.2.1 0, sh.2, .inl (M.2.2.1 c))
  | 1 => .inl (Ω.2.1 1, sh.2, .inl (M.2.2.1 c))
  | 2 => .inl (Ω.2.1 2, sh.2, .inr (.inl (M.2.2.2 c)))
  | 3 => .inl (Ω.2.1 3, sh.2, .inr (.inr (.inr (.inr (fun k => (mj_rf M c k).map (mj_q Ω))))))
  | k + 4 => .inr (k, mj_fs Ω M c k)
def mj_w (Ω : mj_Om) (M : mj_M) : va_W := M.1.mapIdx (fun c sh => (Ω.2.2.1 + c, mj_cell Ω M c sh))
abbrev mj_ty (Ω : mj_Om) : List (ClassId × FieldType) := [(Ω.2.1 0, .int), (Ω.2.1 1, .boolean), (Ω.2.1 2, .long), (Ω.2.1 3, .array .int)]
def mj_sh (M : mj_M) (c : Nat) : Option (Nat × Nat) := if c < 1000 then M.1[c]? else none
def mj_has (Ω : mj_Om) (ls : Array Slot) (nL : Nat) (L : List (Option Value)) : Prop := ls.size = nL ∧ lv_wf ls ∧ ∀ (i : Nat) (v : Value), L[i]? = some (some v) → ls[i]? = some (.val (mj_v Ω v))
def mj_l (Ω : mj_Om) (L : List (Option Value)) : List (Nat × Value) := (List.range L.length).filterMap (fun i => (L.getD i none).map (fun v => (i, mj_v Ω v)))
/-- memory changed at one int, at one long -/
def mj_ui (I : Nat → Nat → Int32) (c k : Nat) (x : Int32) : Nat → Nat → Int32 := fun a b => if a = c then (if b = k then x else I a b) else I a b
def mj_ul (J : Nat → Nat → Int64) (c k : Nat) (x : Int64) : Nat → Nat → Int64 := fun a b => if a = c then (if b = k then x else J a b) else J a b
theorem mj_w_at {Ω : mj_Om} {M : mj_M} {c : Nat} {sh : Nat × Nat} (h : mj_sh M c = some sh) : (mj_w Ω M)[c]? = some (mj_q Ω c, mj_cell Ω M c sh) := by
  unfold mj_sh at h
  by_cases hc : c < 1000
  · rw [if_pos hc] at h
    simp [mj_w, List.getElem?_mapIdx, h, mj_q, hc]
  · rw [if_neg hc] at h; cases h
theorem mj_D {Ω : mj_Om} {M : mj_M} : va_D (mj_A Ω) (mj_w Ω M) := by
  refine ⟨fun i j p q hi hj h => ?_, fun k q h => ?_⟩
  · simp only [mj_w, List.getElem?_mapIdx, Option.map_eq_some_iff] at hi hj
    obtain ⟨a, -, rfl⟩ := hi
    obtain ⟨b, -, rfl⟩ := hj
    simp only at h
    omega
  · simp only [mj_w, List.getElem?_mapIdx, Option.map_eq_some_iff] at h
    obtain ⟨a, -, rfl⟩ := h
    show Ω.2.2.1 ≤ Ω.2.2.1 + k
    omega
/-- a change of one cell -/
theorem mj_w_set {Ω : mj_Om} {M M' : mj_M} {c : Nat} {sh : Nat × Nat} (h : mj_sh M c = some sh) (h1 : M'.1 = M.1) (h2 : ∀ a s, a ≠ c → M.1[a]? = some s → mj_cell Ω M' a s = mj_cell Ω M a s) : (mj_w Ω M).set c (mj_q Ω c, mj_cell Ω M' c sh) = mj_w Ω M' := by
  have hc : c < 1000 := by
    unfold mj_sh at h
    by_cases hc : c < 1000
    · exact hc
    · rw [if_neg hc] at h; cases h
  have h' : M.1[c]? = some sh := by unfold mj_sh at h; rwa [if_pos hc] at h
  apply List.ext_getElem?
  intro i
  have hlen : c < (mj_w Ω M).length := by
    simp only [mj_w, List.length_mapIdx]
    exact (List.getElem?_eq_some_iff.mp h').1
  by_cases hi : i = c
  · subst hi
    rw [List.getElem?_set_self hlen]
    simp [mj_w, List.getElem?_mapIdx, h1, h', mj_q, hc]
  · rw [List.getElem?_set_ne (Ne.symm hi)]
    simp only [mj_w, List.getElem?_mapIdx, h1]
    cases hm : M.1[i]? with
    | none => rfl
    | some s =>
      simp only [Option.map_some]
      rw [h2 i s hi hm]
theorem mj_l_of {Ω : mj_Om} {ls : Array Slot} {nL : Nat} {L : List (Option Value)} (h : mj_has Ω ls nL L) : lv_has ls nL (mj_l Ω L) := by
  refine ⟨h.1, h.2.1, fun q hq => ?_⟩
  obtain ⟨i, hi, hv⟩ := List.mem_filterMap.mp hq
  have hlt := List.mem_range.mp hi
  cases hg : L.getD i none with
  | none => rw [hg] at hv; cases hv
  | some v =>
    rw [hg] at hv
    cases hv
    refine h.2.2 i v ?_
    rw [List.getD_eq_getElem?_getD] at hg
    cases he : L[i]? with
    | none => rw [he] at hg; cases hg
    | some z => rw [he] at hg; simp at hg; rw [hg]
def mj_ok1 (L : List (Option Value)) : Nat → Bool
  | 0 => true
  | j + 1 => match L.getD j none with
    | some v => v.category == 1
    | none => true
theorem mj_v_cat (Ω : mj_Om) (v : Value) : (mj_v Ω v).category = v.category := by cases v <;> rfl
theorem mj_st {Ω : mj_Om} {ls' : Array Slot} {nL i : Nat} {L : List (Option Value)} {v : Value} (hok : mj_ok1 L i = true) (h : lv_has ls' nL ((i, mj_v Ω v) :: (mj_l Ω L).filter (fun q => !(q.1 == i) && !(q.1 + 1 == i && q.2.category == 2)))) : mj_has Ω ls' nL (L.set i (some v)) := by
  refine ⟨h.1, h.2.1, fun j w hw => ?_⟩
  by_cases hj : j = i
  · subst hj
    have hlt : j < L.length := by
      have := (List.getElem?_eq_some_iff.mp hw).1
      simpa using this
    rw [List.getElem?_set_self hlt] at hw
    cases hw
    exact h.2.2 (j, mj_v Ω v) List.mem_cons_self
  · rw [List.getElem?_set_ne (Ne.symm hj)] at hw
    have hlt : j < L.length := (List.getElem?_eq_some_iff.mp hw).1
    have hg : L.getD j none = some w := by rw [List.getD_eq_getElem?_getD, hw]; rfl
    refine h.2.2 (j, mj_v Ω w) (List.mem_cons_of_mem _ (List.mem_filter.mpr ⟨List.mem_filterMap.mpr ⟨j, List.mem_range.mpr hlt, by rw [hg]; rfl⟩, ?_⟩))
    have h1 : (j == i) = false := by simpa using hj
    simp only [h1, Bool.not_false, Bool.true_and, Bool.not_eq_true']
    by_cases h2 : j + 1 = i
    · subst h2
      simp only [mj_ok1, hg, beq_iff_eq] at hok
      simp [mj_v_cat, hok]
    · simp [h2]
/-! one instruction that goes straight on: what it asks, and what it leaves to K -/
abbrev mj_S : Type := List (Option Value) × List Value × mj_M
def mj_ld (L : List (Option Value)) (k : Nat) : Option Value := (L.getD k none)
def mj_fl (o idx : Nat) : Option (Nat × Nat) := (mj_flT.getD o []).lookup idx
/-- a condition that a number decides where it is known -/
def mj_gd (b : Bool) (K : Prop) : Prop := match b with
  | true => K
  | false => False
def mj_inB (i : Int32) (n : Nat) : Bool := decide (0 ≤ i) && decide (i.toNatClampNeg < n)
theorem mj_gd_iff {b : Bool} {K : Prop} : mj_gd b K ↔ b = true ∧ K := by
  cases b <;> simp [mj_gd]
theorem mj_inB_iff {i : Int32} {n : Nat} : mj_inB i n = true ↔ vp_in i n := by
  simp only [mj_inB, vp_in, Bool.and_eq_true, decide_eq_true_eq, not_or, Int32.not_lt, Nat.not_le]
theorem mj_gdI {i : Int32} {n : Nat} {K : Prop} (h : mj_gd (mj_inB i n) K) : vp_in i n ∧ K := ⟨mj_inB_iff.mp (mj_gd_iff.mp h).1, (mj_gd_iff.mp h).2⟩
theorem mj_gd0 {y : Int32} {K : Prop} (h : mj_gd (!decide (y = 0)) K) : ¬ y = 0 ∧ K := by
  obtain ⟨h1, h2⟩ := mj_gd_iff.mp h
  exact ⟨by simpa using h1, h2⟩
theorem mj_gdL {y : Int64} {K : Prop} (h : mj_gd (!decide (y = 0)) K) : ¬ y = 0 ∧ K := by
  obtain ⟨h1, h2⟩ := mj_gd_iff.mp h
  exact ⟨by simpa using h1, h2⟩
theorem mj_gd1 {x : Int32} {K : Prop} (h : mj_gd (decide (x = 0) || decide (x = 1)) K) : (x = 0 ∨ x = 1) ∧ K := by
  obtain ⟨h1, h2⟩ := mj_gd_iff.mp h
  exact ⟨by simpa using h1, h2⟩
def mj_push (v : Value) (S : mj_S) (K : mj_S → Prop) : Prop := K (S.1, v :: S.2.1, S.2.2)
def mj_iload (k : Nat) (S : mj_S) (K : mj_S → Prop) : Prop := match mj_ld S.1 k with
  | some (.int x) => K (S.1, .int x :: S.2.1, S.2.2)
  | _ => False
def mj_lload (k : Nat) (S : mj_S) (K : mj_S → Prop) : Prop := match mj_ld S.1 k with
  | some (.long x) => K (S.1, .long x :: S.2.1, S.2.2)
  | _ => False
def mj_aload (k : Nat) (S : mj_S) (K : mj_S → Prop) : Prop := match mj_ld S.1 k with
  | some (.ref x) => K (S.1, .ref x :: S.2.1, S.2.2)
  | _ => False
def mj_put1 (nL k : Nat) (L : List (Option Value)) (v : Value) (K : List (Option Value) → Prop) : Prop := match mj_ok1 L k && decide (k < nL) with
  | true => K (L.set k (some v))
  | false => False
def mj_istore (nL k : Nat) (S : mj_S) (K : mj_S → Prop) : Prop := match S.2.1 with
  | .int x :: st => mj_put1 nL k S.1 (.int x) (fun L => K (L, st, S.2.2))
  | _ => False
def mj_astore (nL k : Nat) (S : mj_S) (K : mj_S → Prop) : Prop := match S.2.1 with
  | .ref x :: st => mj_put1 nL k S.1 (.ref x) (fun L => K (L, st, S.2.2))
  | _ => False
def mj_iinc (nL k : Nat) (n : Int) (S : mj_S) (K : mj_S → Prop) : Prop := match mj_ld S.1 k with
  | some (.int x) => mj_put1 nL k S.1 (.int (x + Int32.ofInt n)) (fun L => K (L, S.2.1, S.2.2))
  | _ => False
def mj_i1 (f : Int32 → Int32) (S : mj_S) (K : mj_S → Prop) : Prop := match S.2.1 with
  | .int x :: st => K (S.1, .int (f x) :: st, S.2.2)
  | _ => False
def mj_i2 (f : Int32 → Int32 → Int32) (S : mj_S) (K : mj_S → Prop) : Prop := match S.2.1 with
  | .int y :: .int x :: st => K (S.1, .int (f x y) :: st, S.2.2)
  | _ => False
def mj_i2n (f : Int32 → Int32 → Int32) (S : mj_S) (K : mj_S → Prop) : Prop := match S.2.1 with
  | .int y :: .int x :: st => mj_gd (!decide (y = 0)) (K (S.1, .int (f x y) :: st, S.2.2))
  | _ => False
def mj_l2 (f : Int64 → Int64 → Int64) (S : mj_S) (K : mj_S → Prop) : Prop := match S.2.1 with
  | .long y :: .long x :: st => K (S.1, .long (f x y) :: st, S.2.2)
  | _ => False
def mj_l2n (f : Int64 → Int64 → Int64) (S : mj_S) (K : mj_S → Prop) : Prop := match S.2.1 with
  | .long y :: .long x :: st => mj_gd (!decide (y = 0)) (K (S.1, .long (f x y) :: st, S.2.2))
  | _ => False
def mj_lsh (f : Int64 → Int32 → Int64) (S : mj_S) (K : mj_S → Prop) : Prop := match S.2.1 with
  | .int y :: .long x :: st => K (S.1, .long (f x y) :: st, S.2.2)
  | _ => False
def mj_lcmp (S : mj_S) (K : mj_S → Prop) : Prop := match S.2.1 with
  | .long y :: .long x :: st => K (S.1, .int (lg_cmp x y) :: st, S.2.2)
  | _ => False
def mj_i2l (S : mj_S) (K : mj_S → Prop) : Prop := match S.2.1 with
  | .int x :: st => K (S.1, .long x.toInt64 :: st, S.2.2)
  | _ => False
def mj_l2i (S : mj_S) (K : mj_S → Prop) : Prop := match S.2.1 with
  | .long x :: st => K (S.1, .int x.toInt32 :: st, S.2.2)
  | _ => False
def mj_dup (S : mj_S) (K : mj_S → Prop) : Prop := match S.2.1 with
  | .int x :: st => K (S.1, .int x :: .int x :: st, S.2.2)
  | .ref x :: st => K (S.1, .ref x :: .ref x :: st, S.2.2)
  | _ => False
def mj_dup2 (S : mj_S) (K : mj_S → Prop) : Prop := match S.2.1 with
  | .int x :: .ref y :: st => K (S.1, .int x :: .ref y :: .int x :: .ref y :: st, S.2.2)
  | .int x :: .int y :: st => K (S.1, .int x :: .int y :: .int x :: .int y :: st, S.2.2)
  | _ => False
def mj_pop (S : mj_S) (K : mj_S → Prop) : Prop := match S.2.1 with
  | .int _ :: st => K (S.1, st, S.2.2)
  | _ => False
/-- fields of a text -/
def mj_sf (o idx c : Nat) : Option Value := match decide (o = 14 ∧ 1010 ≤ c ∧ c < 1013) with
  | true => match idx with
    | 9 => some (.ref (c + 10))
    | 15 => some (.int 0)
    | _ => none
  | false => none
def mj_ldc2 (o idx : Nat) (S : mj_S) (K : mj_S → Prop) : Prop := match (mj_l2T.getD o []).lookup idx with
  | some x => K (S.1, .long x :: S.2.1, S.2.2)
  | none => False
def mj_get (o idx : Nat) (S : mj_S) (K : mj_S → Prop) : Prop := match S.2.1, mj_fl o idx with
  | .ref c :: st, some (ci, k) => match decide (mj_sh S.2.2 c = some (ci + 4, 0)) with
    | true => K (S.1, mj_fv S.2.2 c ((mj_kds ci).getD k 0) k :: st, S.2.2)
    | false => False
  | .ref c :: st, none => match mj_sf o idx c with
    | some v => K (S.1, v :: st, S.2.2)
    | none => False
  | _, _ => False
def mj_put (o idx : Nat) (ini : Bool) (S : mj_S) (K : mj_S → Prop) : Prop := match S.2.1, mj_fl o idx with
  | .ref x :: .ref c :: st, some (ci, k) => match decide (mj_sh S.2.2 c = some (ci + 4, 0) ∧ (mj_kds ci).getD k 9 = 3 ∧ ini = true ∧ ci = o) with
    | true => K (S.1, st, S.2.2.1, ((c, k), x) :: S.2.2.2.1, S.2.2.2.2)
    | false => False
  | .int x :: .ref c :: st, some (ci, k) => match decide (mj_sh S.2.2 c = some (ci + 4, 0)), (mj_kds ci).getD k 9 with
    | true, 0 => K (S.1, st, S.2.2.1, S.2.2.2.1, mj_ui S.2.2.2.2.1 c k x, S.2.2.2.2.2)
    | true, 1 => mj_gd (decide (x = 0) || decide (x = 1)) (K (S.1, st, S.2.2.1, S.2.2.2.1, mj_ui S.2.2.2.2.1 c k x, S.2.2.2.2.2))
    | _, _ => False
  | .long x :: .ref c :: st, some (ci, k) => match decide (mj_sh S.2.2 c = some (ci + 4, 0)), (mj_kds ci).getD k 9 with
    | true, 2 => K (S.1, st, S.2.2.1, S.2.2.2.1, S.2.2.2.2.1, mj_ul S.2.2.2.2.2 c k x)
    | _, _ => False
  | _, _ => False
def mj_ial (S : mj_S) (K : mj_S → Prop) : Prop := match S.2.1 with
  | .int i :: .ref c :: st => match mj_sh S.2.2 c with
    | some (0, n) => mj_gd (mj_inB i n) (K (S.1, .int (S.2.2.2.2.1 c i.toNatClampNeg) :: st, S.2.2))
    | none => match mj_kc c with
      | some (0, xs) => mj_gd (mj_inB i xs.length) (K (S.1, .int (xs.getD i.toNatClampNeg 0) :: st, S.2.2))
      | _ => False
    | _ => False
  | _ => False
def mj_lal (S : mj_S) (K : mj_S → Prop) : Prop := match S.2.1 with
  | .int i :: .ref c :: st => match mj_sh S.2.2 c with
    | some (2, n) => mj_gd (mj_inB i n) (K (S.1, .long (S.2.2.2.2.2 c i.toNatClampNeg) :: st, S.2.2))
    | _ => False
  | _ => False
def mj_bal (S : mj_S) (K : mj_S → Prop) : Prop := match S.2.1 with
  | .int i :: .ref c :: st => match mj_sh S.2.2 c with
    | some (1, n) => mj_gd (mj_inB i n) (K (S.1, .int (S.2.2.2.2.1 c i.toNatClampNeg) :: st, S.2.2))
    | none => match mj_kc c with
      | some (1, xs) => mj_gd (mj_inB i xs.length) (K (S.1, .int (xs.getD i.toNatClampNeg 0) :: st, S.2.2))
      | _ => False
    | _ => False
  | _ => False
def mj_ias (S : mj_S) (K : mj_S → Prop) : Prop := match S.2.1 with
  | .int x :: .int i :: .ref c :: st => match mj_sh S.2.2 c with
    | some (0, n) => mj_gd (mj_inB i n) (K (S.1, st, S.2.2.1, S.2.2.2.1, mj_ui S.2.2.2.2.1 c i.toNatClampNeg x, S.2.2.2.2.2))
    | _ => False
  | _ => False
def mj_bas (S : mj_S) (K : mj_S → Prop) : Prop := match S.2.1 with
  | .int x :: .int i :: .ref c :: st => match mj_sh S.2.2 c with
    | some (1, n) => mj_gd (mj_inB i n) (K (S.1, st, S.2.2.1, S.2.2.2.1, mj_ui S.2.2.2.2.1 c i.toNatClampNeg (vp_nar .boolean x), S.2.2.2.2.2))
    | _ => False
  | _ => False
def mj_las (S : mj_S) (K : mj_S → Prop) : Prop := match S.2.1 with
  | .long x :: .int i :: .ref c :: st => match mj_sh S.2.2 c with
    | some (2, n) => mj_gd (mj_inB i n) (K (S.1, st, S.2.2.1, S.2.2.2.1, S.2.2.2.2.1, mj_ul S.2.2.2.2.2 c i.toNatClampNeg x))
    | _ => False
  | _ => False
def mj_aal (S : mj_S) (K : mj_S → Prop) : Prop := match S.2.1 with
  | .int i :: .ref c :: st => match mj_sh S.2.2 c with
    | some (3, n) => mj_gd (mj_inB i n) (K (S.1, mj_rv (mj_rf S.2.2 c i.toNatClampNeg) :: st, S.2.2))
    | _ => False
  | _ => False
def mj_alen (S : mj_S) (K : mj_S → Prop) : Prop := match S.2.1 with
  | .ref c :: st => match mj_sh S.2.2 c with
    | some (0, n) => K (S.1, .int (Int32.ofNat n) :: st, S.2.2)
    | none => match mj_kc c with
      | some (_, xs) => K (S.1, .int (Int32.ofNat xs.length) :: st, S.2.2)
      | none => False
    | _ => False
  | _ => False
def mj_ldc (o idx : Nat) (S : mj_S) (K : mj_S → Prop) : Prop := match (mj_ldT.getD o []).lookup idx with
  | some x => K (S.1, .int x :: S.2.1, S.2.2)
  | none => False
def mj_ldcS (o idx : Nat) (S : mj_S) (K : mj_S → Prop) : Prop := match (mj_ldT.getD o []).lookup idx with
  | some x => K (S.1, .int x :: S.2.1, S.2.2)
  | none => match mj_lt o idx with
    | some i => K (S.1, .ref (1010 + i) :: S.2.1, S.2.2)
    | none => False
def mj_gst (o idx : Nat) (S : mj_S) (K : mj_S → Prop) : Prop := match mj_gs o idx with
  | some v => K (S.1, v :: S.2.1, S.2.2)
  | none => False
/-- the whole: o the class, ini a constructor, nL locals -/
def mj_stp (o : Nat) (ini : Bool) (nL : Nat) (i : Instr) (S : mj_S) (K : mj_S → Prop) : Prop := match i with
  | .iconst n => mj_push (.int (Int32.ofInt n)) S K
  | .bipush n => mj_push (.int (Int8.ofInt n).toInt32) S K
  | .sipush n => mj_push (.int (Int16.ofInt n).toInt32) S K
  | .lconst n => mj_push (.long (Int64.ofNat (n : Nat))) S K
  | .ldc k => mj_ldcS o k S K
  | .ldc_w k => mj_ldc o k S K
  | .ldc2_w k => mj_ldc2 o k S K
  | .iload_n k => mj_iload k S K
  | .iload k => mj_iload k S K
  | .lload_n k => mj_lload k S K
  | .lload k => mj_lload k S K
  | .aload_n k => mj_aload k S K
  | .aload k => mj_aload k S K
  | .istore_n k => mj_istore nL k S K
  | .istore k => mj_istore nL k S K
  | .astore_n k => mj_astore nL k S K
  | .astore k => mj_astore nL k S K
  | .iinc k n => mj_iinc nL k n S K
  | .iadd => mj_i2 (fun x y => x + y) S K
  | .isub => mj_i2 (fun x y => x - y) S K
  | .imul => mj_i2 (fun x y => x * y) S K
  | .iand => mj_i2 (fun x y => x &&& y) S K
  | .ior => mj_i2 (fun x y => x ||| y) S K
  | .ishl => mj_i2 (fun x y => x <<< (y &&& 31)) S K
  | .ishr => mj_i2 (fun x y => x >>> (y &&& 31)) S K
  | .iushr => mj_i2 (fun x y => (x.toUInt32 >>> (y.toUInt32 &&& Int32.toUInt32 31)).toInt32) S K
  | .idiv => mj_i2n (fun x y => x / y) S K
  | .irem => mj_i2n (fun x y => x - x / y * y) S K
  | .ineg => mj_i1 (fun x => -x) S K
  | .i2b => mj_i1 (fun x => x.toInt8.toInt32) S K
  | .i2c => mj_i1 (fun x => (x.toUInt32 % 65536).toInt32) S K
  | .ladd => mj_l2 (fun x y => x + y) S K
  | .lsub => mj_l2 (fun x y => x - y) S K
  | .lmul => mj_l2 (fun x y => x * y) S K
  | .land => mj_l2 (fun x y => x &&& y) S K
  | .lor => mj_l2 (fun x y => x ||| y) S K
  | .ldiv => mj_l2n (fun x y => x / y) S K
  | .lrem => mj_l2n (fun x y => x - x / y * y) S K
  | .lshl => mj_lsh (fun x y => x <<< (y.toInt64 &&& 63)) S K
  | .lushr => mj_lsh (fun x y => (x.toUInt64 >>> (y.toInt64.toUInt64 &&& Int64.toUInt64 63)).toInt64) S K
  | .lcmp => mj_lcmp S K
  | .i2l => mj_i2l S K
  | .l2i => mj_l2i S K
  | .dup => mj_dup S K
  | .dup2 => mj_dup2 S K
  | .pop => mj_pop S K
  | .getfield k => mj_get o k S K
  | .putfield k => mj_put o k ini S K
  | .iaload => mj_ial S K
  | .laload => mj_lal S K
  | .baload => mj_bal S K
  | .aaload => mj_aal S K
  | .iastore => mj_ias S K
  | .lastore => mj_las S K
  | .bastore => mj_bas S K
  | .arraylength => mj_alen S K
  | _ => False
/-- a straight stretch -/
def mj_run (o : Nat) (ini : Bool) (nL : Nat) : List Instr → mj_S → (mj_S → Prop) → Prop
  | [], S, K => K S
  | i :: is, S, K => mj_stp o ini nL i S (fun S' => mj_run o ini nL is S' K)
def mj_dec (cc : ByteArray) (pc : Nat) : List Instr → Nat → Prop
  | [], pe => pc = pe
  | i :: is, pe => decode cc pc = .ok (i, mj_len i) ∧ mj_dec cc (pc + mj_len i) is pe
