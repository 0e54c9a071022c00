/-! ===== the law's start: the tables' numbers, the constants ===== -/
def mj_At (p : Program) (s : State) (m : MethodId) (meth : Method) (c : Code) (b L : Nat) (xs : Nat → Int32) : Prop :=
  p.tables.exec = Jvm.exec ∧ c.code = code ∧ meth.sig.returnType = ret ∧ c.maxLocals = 7 ∧ s.vm.findClass RL = some m.cls ∧ (∀ w ∈ lw_tbl, w.before #[Value.ref b] s = true) ∧ va_X b L xs s s.heap ∧ b < s.heap.size ∧ meth.locks = false ∧ (Jvm.Cond.and given_1 narrow_1).before #[Value.ref b] s = true
def mj_nwB (w : Cond) : Bool := decide (w ∈ flatC (Jvm.Cond.and given_1 narrow_1))
theorem mj_nwI {b : Nat} {s : State} (h : (Jvm.Cond.and given_1 narrow_1).before #[Value.ref b] s = true) {w : Cond} (hw : mj_nwB w = true) : w.before #[Value.ref b] s = true := flat_of_before _ h w (of_decide_eq_true hw)
def mj_kst (k : Nat) : Term := .static RX10 ((mj_kI[k]?).map (fun q => q.1) |>.getD "") "[I"
def mj_kvs (k : Nat) : List Int32 := ((mj_kI[k]?).map (fun q => q.2.2)).getD []
def mj_kok (k : Nat) : Bool := mj_nwB (.arrayOf (mj_kst k) .int) && mj_nwB (.eq (.length (mj_kst k)) (.int (Int32.ofNat (mj_kvs k).length))) && (List.range (mj_kvs k).length).all (fun j => mj_nwB (.eq (.elem (mj_kst k) (.int (Int32.ofNat j))) (.int ((mj_kvs k).getD j 0)))) && decide (Cond.laysStatic RX10 ((mj_kI[k]?).map (fun q => q.1) |>.getD "") "[I" ∈ lw_tbl)
set_option maxRecDepth 100000 in
theorem mj_kokT : (List.range 6).all mj_kok = true := by decide +kernel
def mj_sst (k : Nat) : Term := match mj_kS[k]? with
  | some q => .string (mj_own.getD q.1 "") q.2.1
  | none => .int 0
def mj_svs (k : Nat) : List Int32 := ((mj_kS[k]?).map (fun q => q.2.2.2)).getD []
def mj_sok (k : Nat) : Bool := mj_nwB (.exactly (mj_sst k) "java/lang/String") && mj_nwB (.eq (.field (mj_sst k) "java/lang/String" "coder" "B") (.int 0)) && mj_nwB (.arrayOf (.field (mj_sst k) "java/lang/String" "value" "[B") .byte) && mj_nwB (.eq (.length (.field (mj_sst k) "java/lang/String" "value" "[B")) (.int (Int32.ofNat (mj_svs k).length))) && (List.range (mj_svs k).length).all (fun j => mj_nwB (.eq (.elem (.field (mj_sst k) "java/lang/String" "value" "[B") (.int (Int32.ofNat j))) (.int ((mj_svs k).getD j 0)))) && (match mj_kS[k]? with
  | some q => decide (Cond.stringRef (mj_own.getD q.1 "") q.2.1 q.2.2.1 ∈ lw_tbl)
  | none => false)
set_option maxRecDepth 100000 in
theorem mj_sokT : (List.range 3).all mj_sok = true := by decide +kernel
set_option maxRecDepth 100000 in
theorem mj_compT : (mj_nwB (.eq (.static "java/lang/String" "COMPACT_STRINGS" "Z") (.int 1)) && decide (Cond.laysStatic "java/lang/String" "COMPACT_STRINGS" "Z" ∈ lw_tbl) && decide (Cond.initialized "java/lang/String" ∈ lw_tbl) && decide (Cond.initialized RX10 ∈ lw_tbl) && decide (Cond.arrayClass .int ∈ lw_tbl) && decide (Cond.arrayClass .boolean ∈ lw_tbl) && decide (Cond.arrayClass .long ∈ lw_tbl) && decide (Cond.arrayOver (.array .int) ∈ lw_tbl) && mj_nwB (.isRef (.static Bundle.tN "UNASSIGNED_STACK" Bundle.steD)) && mj_nwB (.isRef (.static Bundle.tN "SUPPRESSED_SENTINEL" Bundle.listD)) && decide (Cond.laysStatic Bundle.tN "UNASSIGNED_STACK" Bundle.steD ∈ lw_tbl) && decide (Cond.laysStatic Bundle.tN "SUPPRESSED_SENTINEL" Bundle.listD ∈ lw_tbl) && decide (Cond.initialized Bundle.tN ∈ lw_tbl)) = true := by decide +kernel
set_option maxRecDepth 100000 in
theorem mj_instT : (List.range 13).all (fun ci => match vwCl[ci]? with
  | some q => decide (Cond.instantiable q.1 q.2.2 ∈ lw_tbl)
  | none => false) = true := by decide +kernel
theorem mj_arrK {s : State} {args : Array Value} {ty : FieldType} (h : (Cond.arrayClass ty).before args s = true) (hty : ∀ C, ty ≠ .object C) : ∃ cA, ArrOfT s cA ty ∧ va_RA s cA ty := by
  obtain ⟨cA, kA, comp, hfind, hk, hkind⟩ := Cond.arrayClass_spec h
  refine ⟨cA, fun n z => ⟨fun k h => (by cases h), kA, hk, comp, hkind⟩, ?_⟩
  cases ty with
  | object C => exact absurd rfl (hty C)
  | _ => exact hfind
theorem mj_arrO {s : State} {args : Array Value} (h : (Cond.arrayOver (.array .int)).before args s = true) : ∃ cA, ArrOfT s cA (.array .int) ∧ va_RA s cA (.array .int) := by
  have h' := h
  simp only [Cond.before, Cond.holds, Cond.value, beq_iff_eq] at h'
  cases hc : s.vm.findClass (FieldType.array .int).toString with
  | none => simp [hc] at h'
  | some comp =>
    simp only [hc, Option.bind_some, Option.bind_eq_some_iff, Option.map_eq_some_iff] at h'
    obtain ⟨c, hi, k, hk, hb⟩ := h'
    cases hkind : k.kind with
    | array component ty =>
      rw [hkind] at hb
      simp at hb
      refine ⟨c, fun n z => ⟨fun k h => (by cases h), k, hk, component, by rw [hkind, hb.1]⟩, hb.2⟩
    | _ => rw [hkind] at hb; simp at hb
set_option maxHeartbeats 4000000 in
theorem mj_setup {p : Program} {s : State} {m : MethodId} {meth : Method} {c : Code} {b L : Nat} {xs : Nat → Int32} (C0 : mj_At p s m meth c b L xs) : ∃ Ω : mj_Om, Ω.2.2.1 = s.heap.size ∧ Ω.2.2.2 2000 = b ∧ mj_F Ω p s m #[Value.ref b] meth c 13 false code 7 (some .boolean) := by
  obtain ⟨hx, hb, hr, hml, hown, hts, hX, hbl, hlocks, hgv⟩ := C0
  have hA : ∀ a : Nat, a < s.heap.size → ¬ (fun q : Nat => s.heap.size ≤ q) a := fun a h q => by omega
  have hG : ∀ w ∈ mj_GW, w.before #[Value.ref b] s = true := fun w hw => hts w (List.mem_filter.mp hw).1
  have hT := mj_compT
  simp only [Bool.and_eq_true, decide_eq_true_eq] at hT
  obtain ⟨⟨⟨⟨⟨⟨⟨⟨⟨⟨⟨⟨t1, t2⟩, t3⟩, t4⟩, t5⟩, t6⟩, t7⟩, t8⟩, t9⟩, t10⟩, t11⟩, t12⟩, t13⟩ := hT
  -- classes
  have hcl : ∀ ci : Nat, ∃ (q : ClassId × (Nat → Nat)), ∀ r, vwCl[ci]? = some r → u_Kn s r.1 r.2.1 r.2.2 q.1 q.2 := by
    intro ci
    cases hq : vwCl[ci]? with
    | none => exact ⟨(0, fun _ => 0), fun r h => (by cases h)⟩
    | some r =>
      have hlt : ci < 13 := (List.getElem?_eq_some_iff.mp hq).1
      have h1 := List.all_eq_true.mp mj_instT ci (List.mem_range.mpr hlt)
      rw [hq] at h1
      obtain ⟨cC, iS, hK⟩ := u_known (C := r.1) (T := r.2.1) (N := r.2.2) (n := r.2.2) hG (mj_cls hq).1 (hts _ (of_decide_eq_true h1))
      exact ⟨(cC, iS), fun r' h => by cases h; exact hK⟩
  obtain ⟨D, hD⟩ := Classical.axiomOfChoice hcl
  obtain ⟨c0, a0, a0'⟩ := mj_arrK (hts _ t5) (fun C h => by cases h)
  obtain ⟨c1, a1, a1'⟩ := mj_arrK (hts _ t6) (fun C h => by cases h)
  obtain ⟨c2, a2, a2'⟩ := mj_arrK (hts _ t7) (fun C h => by cases h)
  obtain ⟨c3, a3, a3'⟩ := mj_arrO (hts _ t8)
  -- static arrays
  have hst : ∀ k : Nat, ∃ t : Nat, k < 6 → (mj_kst k).eval #[Value.ref b] s none [] s = some (.ref t) ∧ va_T .int t (mj_kvs k).length (fun j => .int ((mj_kvs k).getD j 0)) (fun q => s.heap.size ≤ q) s s.heap := by
    intro k
    by_cases hk : k < 6
    · have h1 := List.all_eq_true.mp mj_kokT k (List.mem_range.mpr hk)
      simp only [mj_kok, Bool.and_eq_true, List.all_eq_true, List.mem_range] at h1
      obtain ⟨⟨⟨h2, h3⟩, h4⟩, h5⟩ := h1
      have hle : (mj_kvs k).length < 2 ^ 31 := by
        have : ∀ k, k < 6 → (mj_kvs k).length < 2 ^ 31 := by decide
        exact this k hk
      obtain ⟨t, g1, g2⟩ := va_Tof (f := fun j => .int ((mj_kvs k).getD j 0)) (A := fun q => s.heap.size ≤ q) hle (mj_nwI hgv h2) (va_eqt (mj_nwI hgv h3)) (fun j hj => va_eqt (mj_nwI hgv (h4 j hj))) hA
      exact ⟨t, fun _ => ⟨g1, g2⟩⟩
    · exact ⟨0, fun h => absurd h hk⟩
  obtain ⟨kt, hkt⟩ := Classical.axiomOfChoice hst
  -- texts
  have hss : ∀ k : Nat, ∃ q : Nat × Nat, k < 3 → (mj_sst k).eval #[Value.ref b] s none [] s = some (.ref q.1) ∧ va_O "java/lang/String" q.1 (fun q => s.heap.size ≤ q) s s.heap ∧ va_OF "java/lang/String" "coder" "B" (.int 0) q.1 (fun q => s.heap.size ≤ q) s s.heap ∧ va_OF "java/lang/String" "value" "[B" (.ref q.2) q.1 (fun q => s.heap.size ≤ q) s s.heap ∧ va_T .byte q.2 (mj_svs k).length (fun j => .int ((mj_svs k).getD j 0)) (fun q => s.heap.size ≤ q) s s.heap := by
    intro k
    by_cases hk : k < 3
    · have h1 := List.all_eq_true.mp mj_sokT k (List.mem_range.mpr hk)
      simp only [mj_sok, Bool.and_eq_true, List.all_eq_true, List.mem_range] at h1
      obtain ⟨⟨⟨⟨⟨h2, h3⟩, h4⟩, h5⟩, h6⟩, -⟩ := h1
      have hle : (mj_svs k).length < 2 ^ 31 := by
        have : ∀ k, k < 3 → (mj_svs k).length < 2 ^ 31 := by decide
        exact this k hk
      obtain ⟨adK, adV, hS, hev⟩ := vk_Sof (N := 1) (tm := fun _ => mj_sst k) (len := [(mj_svs k).length]) (byt := [mj_svs k]) (A := fun q => s.heap.size ≤ q) (fun i hi => by rw [show i = 0 by omega]; exact hle) (fun i hi => mj_nwI hgv h2) (fun i hi => mj_nwI hgv h3) (fun i hi => mj_nwI hgv h4) (fun i hi => by rw [show i = 0 by omega]; exact mj_nwI hgv h5) (fun i hi j hj => by
        rw [show i = 0 by omega] at hj ⊢
        exact mj_nwI hgv (h6 j hj)) (fun i j hi hj hne => absurd (show i = j by omega) hne) hA
      exact ⟨(adK 0, adV 0), fun _ => ⟨hev 0 (by omega), hS.1 0 (by omega)⟩⟩
    · exact ⟨(0, 0), fun h => absurd h hk⟩
  obtain ⟨kss, hkss⟩ := Classical.axiomOfChoice hss
  refine ⟨((fun ci => (D ci).1, fun ci => (D ci).2), (fun t => if t = 0 then c0 else if t = 1 then c1 else if t = 2 then c2 else c3), s.heap.size, fun q => if q < 1010 then kt (q - 1000) else if q < 1020 then (kss (q - 1010)).1 else if q < 2000 then (kss (q - 1020)).2 else b), rfl, by simp, hx, hb, hml, hown, hG, hr, hlocks, ⟨fun ci q hq => hD ci q hq, ?_⟩, fun h => (by cases h), Nat.le_refl _, ?_, ?_, ?_⟩
  · intro k q hq
    match k, hq with
    | 0, hq => cases hq; exact ⟨a0, a0'⟩
    | 1, hq => cases hq; exact ⟨a1, a1'⟩
    | 2, hq => cases hq; exact ⟨a2, a2'⟩
    | 3, hq => cases hq; exact ⟨a3, a3'⟩
    | k + 4, hq => simp [mj_ty] at hq
  · intro w hw
    have h1 := hts w (List.mem_filter.mp hw).1
    have h2 := (List.mem_filter.mp hw).2
    cases w <;> first | (simp [mj_isN] at h2; done) | exact va_Nw.of rfl h1 | exact h1
  · refine ⟨fun k q hq => ?_, ⟨va_Zof (hts _ t2) (hts _ t3) (va_eqi (mj_nwI hgv t1)) hA, vx_Zqof (hts _ t11) (hts _ t13) (mj_nwI hgv t9) hA, vx_Zqof (hts _ t12) (hts _ t13) (mj_nwI hgv t10) hA⟩, fun k q hq => ?_⟩
    · have hk : k < 6 := (List.getElem?_eq_some_iff.mp hq).1
      obtain ⟨g1, g2⟩ := hkt k hk
      have h1 := List.all_eq_true.mp mj_kokT k (List.mem_range.mpr hk)
      simp only [mj_kok, Bool.and_eq_true] at h1
      have hlay := of_decide_eq_true h1.2
      have e1 : mj_kvs k = q.2.2 := by simp [mj_kvs, hq]
      have e2 : mj_kst k = .static RX10 q.1 "[I" := by simp [mj_kst, hq]
      rw [e1] at g2
      rw [e2] at g1
      rw [hq] at hlay
      have e3 : (if 1000 + k < 1010 then kt (1000 + k - 1000) else if 1000 + k < 1020 then (kss (1000 + k - 1010)).1 else if 1000 + k < 2000 then (kss (1000 + k - 1020)).2 else b) = kt k := by
        rw [if_pos (by omega), show 1000 + k - 1000 = k by omega]
      simp only [e3]
      exact ⟨va_Zref (hts _ hlay) (hts _ t4) g1 hA, g2⟩
    · have hk : k < 3 := (List.getElem?_eq_some_iff.mp hq).1
      obtain ⟨-, g1, g2, g3, g4⟩ := hkss k hk
      have e1 : mj_svs k = q.2.2.2 := by simp [mj_svs, hq]
      rw [e1] at g4
      have e3 : (if 1010 + k < 1010 then kt (1010 + k - 1000) else if 1010 + k < 1020 then (kss (1010 + k - 1010)).1 else if 1010 + k < 2000 then (kss (1010 + k - 1020)).2 else b) = (kss k).1 := by
        rw [if_neg (by omega), if_pos (by omega), show 1010 + k - 1010 = k by omega]
      have e4 : (if 1020 + k < 1010 then kt (1020 + k - 1000) else if 1020 + k < 1020 then (kss (1020 + k - 1010)).1 else if 1020 + k < 2000 then (kss (1020 + k - 1020)).2 else b) = (kss k).2 := by
        rw [if_neg (by omega), if_neg (by omega), if_pos (by omega), show 1020 + k - 1020 = k by omega]
      simp only [e3, e4]
      exact ⟨g1, g2, g3, g4⟩
  · intro k q hq
    have hk : k < 3 := (List.getElem?_eq_some_iff.mp hq).1
    obtain ⟨g0, -⟩ := hkss k hk
    have h1 := List.all_eq_true.mp mj_sokT k (List.mem_range.mpr hk)
    simp only [mj_sok, Bool.and_eq_true] at h1
    have h2 := h1.2
    rw [hq] at h2
    have hsr := hts _ (of_decide_eq_true h2)
    have e2 : mj_sst k = .string (mj_own.getD q.1 "") q.2.1 := by simp [mj_sst, hq]
    rw [e2] at g0
    have e3 : (if 1010 + k < 1010 then kt (1010 + k - 1000) else if 1010 + k < 1020 then (kss (1010 + k - 1010)).1 else if 1010 + k < 2000 then (kss (1010 + k - 1020)).2 else b) = (kss k).1 := by
      rw [if_neg (by omega), if_pos (by omega), show 1010 + k - 1010 = k by omega]
    simp only [e3]
    exact vk_R.of hsr g0
