/-! ===== methods of the small machine: contracts, what a stretch with branches and calls asks ===== -/
def mj_rm (d mc ms : Nat) : Room := { frames := d, cells := mc, slots := ms, locals := 64 * d }
def mj_ws (μ : mj_m) : List Cond := .code μ.2.2.2.2.2 μ.2.2.1 μ.2.2.2.1 μ.2.2.2.2.1 :: mj_GW
def mj_St (Ω : mj_Om) (al : Bool) (M : mj_M) (U : State) : Prop := va_P Ω.1 vwCl (mj_w Ω M) U.heap ∧ (al = true → U.heap.size = Ω.2.2.1 + M.1.length) ∧ Ω.2.2.1 ≤ U.heap.size ∧ va_K Ω.1 vwCl (mj_ty Ω) U ∧ mj_Kc Ω U
def mj_Pc (Ω : mj_Om) (al : Bool) (as : List Value) (M : mj_M) : Array Value → State → Prop := fun v U => v = (as.map (mj_v Ω)).toArray ∧ mj_St Ω al M U
def mj_Qc (Ω : mj_Om) (al : Bool) (Φ : Option Value → mj_M → Prop) : Array Value → State → Outcome → State → Prop := fun _ st oc t => (∃ (r : Option Value) (M' : mj_M), oc = .returned (r.map (mj_v Ω)) ∧ Φ r M' ∧ mj_St Ω al M' t) ∧ va_F (mj_A Ω) st t
def mj_Met (Ω : mj_Om) (l : Launch) (al : Bool) (μ : mj_m) (d mc ms : Nat) (as : List Value) (M : mj_M) (Φ : Option Value → mj_M → Prop) : Prop :=
  Met l μ.2.2.2.2.2 (mj_ws μ) (mj_rm d mc ms) (mj_Pc Ω al as M) (mj_Qc Ω al Φ) mc ms (mj_A Ω)
/-- the goal at a place of a method -/
def mj_G (Ω : mj_Om) (l : Launch) (al : Bool) (μ : mj_m) (d mc ms : Nat) (Φ : Option Value → mj_M → Prop) (k n pc : Nat) (S : mj_S) : Prop :=
  ∀ (p : Program) (e : Env) (s : State) (m : MethodId) (args : Array Value) (below : List Frame) (meth : Method) (c : Code), mj_F Ω p s m args meth c μ.1 μ.2.1 μ.2.2.1 μ.2.2.2.1 μ.2.2.2.2.1 →
    mj_Wg Ω al μ.2.2.2.1 p l e (mj_rm d mc ms) s m args below meth c k n (MQ below (mj_Qc Ω al Φ) args s mc ms (mj_A Ω)) pc S
/-- the same, with any room and end -/
def mj_GX (Ω : mj_Om) (l : Launch) (al : Bool) (μ : mj_m) (R : Room) (QX : List Frame → Array Value → State → State → Prop) (pc : Nat) (S : mj_S) : Prop :=
  ∀ (p : Program) (e : Env) (s : State) (m : MethodId) (args : Array Value) (below : List Frame) (meth : Method) (c : Code), mj_F Ω p s m args meth c μ.1 μ.2.1 μ.2.2.1 μ.2.2.2.1 μ.2.2.2.2.1 →
    mj_Wg Ω al μ.2.2.2.1 p l e R s m args below meth c 0 0 (QX below args s) pc S
abbrev mj_PT : Type := List Value → mj_M → (Option Value → mj_M → Prop) → Prop
def mj_tgt (pc : Nat) (off : Int) : Nat := ((pc : Int) + off).toNat
def mj_jmp (pc : Nat) (off : Int) (K : Nat → Prop) : Prop := match decide ((pc : Int) + off = ((mj_tgt pc off : Nat) : Int)) with
  | true => K (mj_tgt pc off)
  | false => False
def mj_cc (c : ClassFile.Cond) (x y : Int32) (A B : Prop) : Prop := match c with
  | .eq => if x = y then A else B
  | .ne => if x = y then B else A
  | .lt => if x < y then A else B
  | .ge => if x < y then B else A
  | .gt => if y < x then A else B
  | .le => if y < x then B else A
def mj_rti (ret : Option FieldType) (x : Int32) : Bool := match ret with
  | some .int => true
  | some .boolean => decide (x = 0) || decide (x = 1)
  | some .byte => decide (x = 0)
  | _ => false
def mj_sw (pc : Nat) (x : Int32) (dflt : Int) : List (Int × Int) → (Nat → Prop) → Prop
  | [], K => mj_jmp pc dflt K
  | (v, off) :: r, K => if x = Int32.ofInt v then mj_jmp pc off K else mj_sw pc x dflt r K
def mj_rg (ps : List (Int × Int)) : Bool := ps.all (fun q => decide ((Int32.ofInt q.1).toInt = q.1))
def mj_tp (lo : Int) (offs : Array Int) : List (Int × Int) := offs.toList.mapIdx (fun j off => (lo + (j : Int), off))
/-- only the locals that are told -/
def mj_msk (b : List Bool) (L : List (Option Value)) : List (Option Value) := L.mapIdx (fun i v => match b.getD i false with
  | true => v
  | false => none)
def mj_ct (cut : List (Nat × List Bool)) (go : Bool) (pc : Nat) : Option (List Bool) := match go with
  | true => none
  | false => cut.lookup pc
/-- cuts: where it is left to K; cs: the calls, by pool number: how many values they take, what they ask -/
def mj_wp (μ : mj_m) (P : List (Nat × Instr × Nat)) (cut : List (Nat × List Bool)) (cs : List (Nat × Nat × Nat × mj_PT)) (Φ : Option Value → mj_M → Prop) (K : Nat → mj_S → Prop) : Nat → Bool → Nat → mj_S → Prop
  | 0, _, pc, S => K pc S
  | f + 1, go, pc, S => match mj_ct cut go pc, P.lookup pc with
    | some b, _ => K pc (mj_msk b S.1, S.2.1, S.2.2)
    | none, none => False
    | none, some (i, _) => match i with
      | .tableswitch dflt lo hi offs => match S.2.1 with
        | .int x :: st => match mj_rg (mj_tp lo offs) && decide (hi + 1 = lo + (offs.toList.length : Int)) with
          | true => mj_sw pc x dflt (mj_tp lo offs) (fun t => mj_wp μ P cut cs Φ K f false t (S.1, st, S.2.2))
          | false => False
        | _ => False
      | .lookupswitch dflt ps => match S.2.1 with
        | .int x :: st => match mj_rg ps.toList && (ps.toList.zip (ps.toList.drop 1)).all (fun (a, next) => a.1 < next.1) with
          | true => mj_sw pc x dflt ps.toList (fun t => mj_wp μ P cut cs Φ K f false t (S.1, st, S.2.2))
          | false => False
        | _ => False
      | .getstatic k => mj_gst μ.1 k S (fun S' => mj_wp μ P cut cs Φ K f false (pc + 3) S')
      | .goto off => mj_jmp pc off (fun t => mj_wp μ P cut cs Φ K f false t S)
      | .ifCond c off => match S.2.1 with
        | .int x :: st => mj_jmp pc off (fun t => mj_cc c x 0 (mj_wp μ P cut cs Φ K f false t (S.1, st, S.2.2)) (mj_wp μ P cut cs Φ K f false (pc + 3) (S.1, st, S.2.2)))
        | _ => False
      | .if_icmp c off => match S.2.1 with
        | .int y :: .int x :: st => mj_jmp pc off (fun t => mj_cc c x y (mj_wp μ P cut cs Φ K f false t (S.1, st, S.2.2)) (mj_wp μ P cut cs Φ K f false (pc + 3) (S.1, st, S.2.2)))
        | _ => False
      | .ireturn => match S.2.1 with
        | [.int x] => mj_gd (mj_rti μ.2.2.2.2.1 x) (Φ (some (.int x)) S.2.2)
        | _ => False
      | .lreturn => match S.2.1, μ.2.2.2.2.1 with
        | [.long x], some .long => Φ (some (.long x)) S.2.2
        | _, _ => False
      | .return_ => match S.2.1, μ.2.2.2.2.1 with
        | [], none => Φ none S.2.2
        | _, _ => False
      | .invokevirtual k => match cs.lookup k with
        | some (kd, n, pt) => match decide (kd = 0 ∧ n ≤ S.2.1.length ∧ ((S.2.1.drop n).map (fun v => v.category)).sum ≤ 8) with
          | true => pt (S.2.1.take n).reverse S.2.2 (fun r M => mj_wp μ P cut cs Φ K f false (pc + 3) (S.1, r.toList ++ S.2.1.drop n, M))
          | false => False
        | none => False
      | .invokestatic k => match cs.lookup k with
        | some (kd, n, pt) => match decide (kd = 1 ∧ n ≤ S.2.1.length ∧ ((S.2.1.drop n).map (fun v => v.category)).sum ≤ 8) with
          | true => pt (S.2.1.take n).reverse S.2.2 (fun r M => mj_wp μ P cut cs Φ K f false (pc + 3) (S.1, r.toList ++ S.2.1.drop n, M))
          | false => False
        | none => False
      | .invokespecial k => match cs.lookup k with
        | some (kd, n, pt) => match decide (kd = 2 ∧ n ≤ S.2.1.length ∧ ((S.2.1.drop n).map (fun v => v.category)).sum ≤ 8) with
          | true => pt (S.2.1.take n).reverse S.2.2 (fun r M => mj_wp μ P cut cs Φ K f false (pc + 3) (S.1, r.toList ++ S.2.1.drop n, M))
          | false => False
        | none => False
      | i => mj_stp μ.1 μ.2.1 μ.2.2.2.1 i S (fun S' => mj_wp μ P cut cs Φ K f false (pc + mj_len i) S')
def mj_inv (kd k : Nat) : Instr := match kd with
  | 0 => .invokevirtual k
  | 1 => .invokestatic k
  | _ => .invokespecial k
/-- what a call asks of its callee: as the machine has it -/
def mj_Call (Ω : mj_Om) (l : Launch) (al : Bool) (μ : mj_m) (d k kd n : Nat) (pt : mj_PT) : Prop :=
  ∀ (p : Program) (e : Env) (s : State) (m : MethodId) (args : Array Value) (below : List Frame) (meth : Method) (c : Code) (Q : State → Prop) (R : Room) (k0 n0 pc : Nat) (L : List (Option Value)) (as rest : List Value) (M : mj_M) (Φ : Option Value → mj_M → Prop), mj_F Ω p s m args meth c μ.1 μ.2.1 μ.2.2.1 μ.2.2.2.1 μ.2.2.2.2.1 → (d ≤ R.frames ∧ 64 * d ≤ R.locals ∧ k0 ≤ R.cells ∧ n0 ≤ R.slots) →
    decode μ.2.2.1 pc = .ok (mj_inv kd k, 3) → as.length = n → (rest.map (fun v => v.category)).sum ≤ 8 → pt as M Φ →
    (∀ r M', Φ r M' → mj_Wg Ω al μ.2.2.2.1 p l e R s m args below meth c k0 n0 Q (pc + 3) (L, r.toList ++ rest, M')) →
    mj_Wg Ω al μ.2.2.2.1 p l e R s m args below meth c k0 n0 Q pc (L, as.reverse ++ rest, M)
section MJW
variable {Ω : mj_Om} {l : Launch} {al : Bool} {μ : mj_m} {d : Nat} {Φ : Option Value → mj_M → Prop}
theorem mj_msk_ok {b : List Bool} {L : List (Option Value)} {ls : Array Slot} {nL : Nat} (h : mj_has Ω ls nL L) : mj_has Ω ls nL (mj_msk b L) := by
  refine ⟨h.1, h.2.1, fun i v hv => h.2.2 i v ?_⟩
  simp only [mj_msk, List.getElem?_mapIdx, Option.map_eq_some_iff] at hv
  obtain ⟨w, hw, hv⟩ := hv
  split at hv
  · rw [hw, hv]
  · cases hv
theorem mj_jmp_ok {pc : Nat} {off : Int} {K : Nat → Prop} (h : mj_jmp pc off K) : ∃ t : Nat, (pc : Int) + off = (t : Int) ∧ K t := by
  unfold mj_jmp at h
  split at h
  · rename_i hd
    exact ⟨_, of_decide_eq_true hd, h⟩
  · exact h.elim
theorem mj_sw_ok {pc : Nat} {x : Int32} {dflt : Int} {K : Nat → Prop} : ∀ {ps : List (Int × Int)}, mj_sw pc x dflt ps K → (∃ v off, (v, off) ∈ ps ∧ x = Int32.ofInt v ∧ mj_jmp pc off K) ∨ ((∀ v off, (v, off) ∈ ps → ¬ x = Int32.ofInt v) ∧ mj_jmp pc dflt K)
  | [], h => Or.inr ⟨fun _ _ h => (by cases h), h⟩
  | (v, off) :: r, h => by
    rw [mj_sw] at h
    by_cases e : x = Int32.ofInt v
    · rw [if_pos e] at h
      exact Or.inl ⟨v, off, List.mem_cons_self, e, h⟩
    · rw [if_neg e] at h
      rcases mj_sw_ok h with ⟨v2, o2, h1, h2, h3⟩ | ⟨h1, h2⟩
      · exact Or.inl ⟨v2, o2, List.mem_cons_of_mem _ h1, h2, h3⟩
      · refine Or.inr ⟨fun v2 o2 hm => ?_, h2⟩
        rcases List.mem_cons.mp hm with q | q
        · cases q; exact e
        · exact h1 v2 o2 q
theorem mj_lk_ok {pc : Nat} {x : Int32} {dflt : Int} {K : Nat → Prop} : ∀ {ps : List (Int × Int)}, mj_rg ps = true → mj_sw pc x dflt ps K → mj_jmp pc (Op.lookupswitch.offset ps dflt x.toInt) K
  | [], _, h => h
  | (v, off) :: r, hr, h => by
    simp only [mj_rg, List.all_cons, Bool.and_eq_true, decide_eq_true_eq] at hr
    rw [mj_sw] at h
    rw [Op.lookupswitch.offset_cons]
    by_cases e : x = Int32.ofInt v
    · rw [if_pos e] at h
      rw [if_pos (by rw [e]; exact hr.1.symm)]
      exact h
    · rw [if_neg e] at h
      rw [if_neg (fun q => e (Int32.toInt_inj.mp (by rw [hr.1]; exact q.symm)))]
      exact mj_lk_ok hr.2 h
theorem mj_leave {s : State} {H : Heap} {locs : List Loc} {M : mj_M} {as : Array Value} (hb : Ω.2.2.1 ≤ s.heap.size) (hK : va_K Ω.1 vwCl (mj_ty Ω) s) (hKc : mj_Kc Ω s) (hH : mj_H Ω al M s H locs) (r : Option Value) (hr : Φ r M) : ∀ t : State, t.heap = H → s.WarmedH t.vm → mj_Qc Ω al Φ as s (.returned (r.map (mj_v Ω))) t := by
  intro t ht hW
  refine ⟨⟨r, M, rfl, hr, by rw [ht]; exact hH.1, by rw [ht]; exact hH.2.1, ?_, va_K.moved hW.alike hK, mj_Kc_warm hKc hW (fun a h1 h2 => by rw [ht]; exact hH.2.2.2.1 a h1 h2)⟩, hH.2.2.F ht⟩
  rw [ht]
  exact Nat.le_trans hb hH.2.2.1
theorem mj_W_mono {p : Program} {e : Env} {R : Room} {s : State} {m : MethodId} {args : Array Value} {below : List Frame} {meth : Method} {c : Code} {H : Heap} {locs : List Loc} {cells slots : Nat} {Q Q' : State → Prop} {g : JFrame} (h : ∀ t, Q t → Q' t) (k : W p l e R s m args below meth c H locs cells slots Q g) : W p l e R s m args below meth c H locs cells slots Q' g := by
  intro T hT X
  obtain ⟨t, a, b⟩ := k T hT X
  exact ⟨t, a, h t b⟩
set_option maxHeartbeats 4000000 in
theorem mj_wp_okX {R : Room} {QX : List Frame → Array Value → State → State → Prop} (hRX : d ≤ R.frames ∧ 64 * d ≤ R.locals) (hQX : ∀ below args s t, MQ below (mj_Qc Ω al Φ) args s 0 0 (mj_A Ω) t → QX below args s t) {P : List (Nat × Instr × Nat)} {cut : List (Nat × List Bool)} {cs : List (Nat × Nat × Nat × mj_PT)} {K : Nat → mj_S → Prop} (hP : mj_pd μ.2.2.1 P) (hcs : ∀ q ∈ cs, mj_Call Ω l al μ d q.1 q.2.1 q.2.2.1 q.2.2.2) (hK : ∀ pc S, K pc S → mj_GX Ω l al μ R QX pc S) :
    ∀ (f : Nat) (go : Bool) (pc : Nat) (S : mj_S), mj_wp μ P cut cs Φ K f go pc S → mj_GX Ω l al μ R QX pc S
  | 0, _, pc, S, h => hK pc S h
  | f + 1, go, pc, S, h => by
    have ih := mj_wp_okX (cut := cut) hRX hQX hP hcs hK f
    rw [mj_wp] at h
    split at h
    · intro p e s m args below meth c F H locs ls hH hl
      exact hK _ _ h p e s m args below meth c F H locs ls hH (mj_msk_ok hl)
    · exact h.elim
    · rename_i i len _ hlk
      obtain ⟨hdg, hlen⟩ := hP _ (mj_lookup_mem hlk)
      simp only at hdg hlen
      intro p e s m args below meth c F
      by_cases hsw : mj_isSw i = true
      · cases i with
        | tableswitch dflt lo hi offs =>
          obtain ⟨L, st, M⟩ := S
          simp only at h
          split at h
          · rename_i x st'
            split at h
            · rename_i hd
              simp only [Bool.and_eq_true, decide_eq_true_eq] at hd
              intro H locs ls hH hl
              rcases mj_sw_ok h with ⟨v, off, hm, hx, hj⟩ | ⟨hno, hj⟩
              · obtain ⟨t, ht, hk9⟩ := mj_jmp_ok hj
                have hv := of_decide_eq_true (List.all_eq_true.mp hd.1 _ hm)
                obtain ⟨j, hj2⟩ := List.getElem?_of_mem hm
                simp only [mj_tp, List.getElem?_mapIdx, Option.map_eq_some_iff, Prod.mk.injEq] at hj2
                obtain ⟨o2, ho2, hv2, rfl⟩ := hj2
                have hxv : x.toInt = lo + (j : Int) := by rw [hx, hv, hv2]
                have hjl : j < offs.toList.length := (List.getElem?_eq_some_iff.mp ho2).1
                exact lv_tableIn F.1 F.2.1 hdg (by omega) (by omega) (by rw [show (x.toInt - lo).toNat = j by omega, ← Array.getElem?_toList]; exact ho2) ht (ih _ _ _ hk9 p e s m args below meth c F H locs ls hH hl)
              · obtain ⟨t, ht, hj⟩ := mj_jmp_ok hj
                refine lv_tableOut F.1 F.2.1 hdg ?_ ht (ih _ _ _ hj p e s m args below meth c F H locs ls hH hl)
                by_cases q1 : x.toInt < lo
                · exact Or.inl q1
                · by_cases q2 : hi < x.toInt
                  · exact Or.inr q2
                  · exfalso
                    have hjl : (x.toInt - lo).toNat < offs.toList.length := by omega
                    have hm : (lo + (((x.toInt - lo).toNat : Nat) : Int), offs.toList[(x.toInt - lo).toNat]) ∈ mj_tp lo offs := List.mem_of_getElem? (i := (x.toInt - lo).toNat) (by simp only [mj_tp, List.getElem?_mapIdx, List.getElem?_eq_getElem hjl]; rfl)
                    have hv := of_decide_eq_true (List.all_eq_true.mp hd.1 _ hm)
                    refine hno _ _ hm (Int32.toInt_inj.mp ?_)
                    rw [hv]
                    simp only
                    omega
            · exact h.elim
          · exact h.elim
        | lookupswitch dflt ps =>
          obtain ⟨L, st, M⟩ := S
          simp only at h
          split at h
          · rename_i x st'
            split at h
            · rename_i hd
              simp only [Bool.and_eq_true] at hd
              intro H locs ls hH hl
              obtain ⟨t, ht, hj⟩ := mj_jmp_ok (mj_lk_ok hd.1 h)
              exact lv_lookup F.1 F.2.1 hdg hd.2 rfl ht (ih _ _ _ hj p e s m args below meth c F H locs ls hH hl)
            · exact h.elim
          · exact h.elim
        | _ => simp [mj_isSw] at hsw
      have hlen : len = mj_il i := by
        rcases hlen with q | q
        · exact absurd q hsw
        · exact q
      subst hlen
      cases i with
      | tableswitch dflt lo hi offs => simp [mj_isSw] at hsw
      | lookupswitch dflt ps => simp [mj_isSw] at hsw
      | goto off =>
        obtain ⟨t, ht, h⟩ := mj_jmp_ok h
        intro H locs ls hH hl
        exact lv_goto F.1 F.2.1 hdg ht (ih false t S h p e s m args below meth c F H locs ls hH hl)
      | ifCond cd off =>
        obtain ⟨L, st, M⟩ := S
        simp only at h
        split at h
        · obtain ⟨t, ht, h⟩ := mj_jmp_ok h
          intro H locs ls hH hl
          cases cd with
          | eq => exact lv_if_eq F.1 F.2.1 hdg ht (fun q => by simp only [mj_cc] at h; rw [if_pos q] at h; exact ih _ _ _ h p e s m args below meth c F H locs ls hH hl) (fun q => by simp only [mj_cc] at h; rw [if_neg q] at h; exact ih _ _ _ h p e s m args below meth c F H locs ls hH hl)
          | ne => exact lv_if_ne F.1 F.2.1 hdg ht (fun q => by simp only [mj_cc] at h; rw [if_neg q] at h; exact ih _ _ _ h p e s m args below meth c F H locs ls hH hl) (fun q => by simp only [mj_cc] at h; rw [if_pos q] at h; exact ih _ _ _ h p e s m args below meth c F H locs ls hH hl)
          | lt => exact lv_if_lt F.1 F.2.1 hdg ht (fun q => by simp only [mj_cc] at h; rw [if_pos q] at h; exact ih _ _ _ h p e s m args below meth c F H locs ls hH hl) (fun q => by simp only [mj_cc] at h; rw [if_neg q] at h; exact ih _ _ _ h p e s m args below meth c F H locs ls hH hl)
          | ge => exact lv_if_ge F.1 F.2.1 hdg ht (fun q => by simp only [mj_cc] at h; rw [if_neg (Int32.not_lt.mpr q)] at h; exact ih _ _ _ h p e s m args below meth c F H locs ls hH hl) (fun q => by simp only [mj_cc] at h; rw [if_pos (Int32.not_le.mp q)] at h; exact ih _ _ _ h p e s m args below meth c F H locs ls hH hl)
          | gt => exact lv_if_gt F.1 F.2.1 hdg ht (fun q => by simp only [mj_cc] at h; rw [if_pos q] at h; exact ih _ _ _ h p e s m args below meth c F H locs ls hH hl) (fun q => by simp only [mj_cc] at h; rw [if_neg q] at h; exact ih _ _ _ h p e s m args below meth c F H locs ls hH hl)
          | le => exact lv_if_le F.1 F.2.1 hdg ht (fun q => by simp only [mj_cc] at h; rw [if_neg (Int32.not_lt.mpr q)] at h; exact ih _ _ _ h p e s m args below meth c F H locs ls hH hl) (fun q => by simp only [mj_cc] at h; rw [if_pos (Int32.not_le.mp q)] at h; exact ih _ _ _ h p e s m args below meth c F H locs ls hH hl)
        · exact h.elim
      | if_icmp cd off =>
        obtain ⟨L, st, M⟩ := S
        simp only at h
        split at h
        · obtain ⟨t, ht, h⟩ := mj_jmp_ok h
          intro H locs ls hH hl
          cases cd with
          | eq => exact lv_icmp_eq F.1 F.2.1 hdg ht (fun q => by simp only [mj_cc] at h; rw [if_pos q] at h; exact ih _ _ _ h p e s m args below meth c F H locs ls hH hl) (fun q => by simp only [mj_cc] at h; rw [if_neg q] at h; exact ih _ _ _ h p e s m args below meth c F H locs ls hH hl)
          | ne => exact lv_icmp_ne F.1 F.2.1 hdg ht (fun q => by simp only [mj_cc] at h; rw [if_neg q] at h; exact ih _ _ _ h p e s m args below meth c F H locs ls hH hl) (fun q => by simp only [mj_cc] at h; rw [if_pos q] at h; exact ih _ _ _ h p e s m args below meth c F H locs ls hH hl)
          | lt => exact lv_icmp_lt F.1 F.2.1 hdg ht (fun q => by simp only [mj_cc] at h; rw [if_pos q] at h; exact ih _ _ _ h p e s m args below meth c F H locs ls hH hl) (fun q => by simp only [mj_cc] at h; rw [if_neg q] at h; exact ih _ _ _ h p e s m args below meth c F H locs ls hH hl)
          | ge => exact lv_icmp_ge F.1 F.2.1 hdg ht (fun q => by simp only [mj_cc] at h; rw [if_neg (Int32.not_lt.mpr q)] at h; exact ih _ _ _ h p e s m args below meth c F H locs ls hH hl) (fun q => by simp only [mj_cc] at h; rw [if_pos (Int32.not_le.mp q)] at h; exact ih _ _ _ h p e s m args below meth c F H locs ls hH hl)
          | gt => exact lv_icmp_gt F.1 F.2.1 hdg ht (fun q => by simp only [mj_cc] at h; rw [if_pos q] at h; exact ih _ _ _ h p e s m args below meth c F H locs ls hH hl) (fun q => by simp only [mj_cc] at h; rw [if_neg q] at h; exact ih _ _ _ h p e s m args below meth c F H locs ls hH hl)
          | le => exact lv_icmp_le F.1 F.2.1 hdg ht (fun q => by simp only [mj_cc] at h; rw [if_neg (Int32.not_lt.mpr q)] at h; exact ih _ _ _ h p e s m args below meth c F H locs ls hH hl) (fun q => by simp only [mj_cc] at h; rw [if_pos (Int32.not_le.mp q)] at h; exact ih _ _ _ h p e s m args below meth c F H locs ls hH hl)
        · exact h.elim
      | ireturn =>
        obtain ⟨L, st, M⟩ := S
        obtain ⟨hx, hb, hml, hown, hts, hr, hlk2, hKk, hin, hbs, hKc⟩ := F
        simp only at h
        split at h
        · rename_i x
          obtain ⟨h1, h⟩ := mj_gd_iff.mp h
          intro H locs ls hH hl
          have hq := mj_leave (as := args) hbs hKk hKc hH (some (.int x)) h
          unfold mj_rti at h1
          split at h1
          · rename_i hrt
            exact mj_W_mono (hQX below args s) (W.iret hx hb (by rw [hr, hrt]) hq hH.2.2.2.2 hdg hlk2)
          · rename_i hrt
            exact mj_W_mono (hQX below args s) (W.zret hx hb (by rw [hr, hrt]) (by simp only [Bool.or_eq_true, decide_eq_true_eq] at h1; rcases h1 with rfl | rfl <;> decide) hq hH.2.2.2.2 hdg hlk2)
          · rename_i hrt
            have h0 := of_decide_eq_true h1
            subst h0
            exact mj_W_mono (hQX below args s) (W.zret hx hb (by rw [hr, hrt]) (by decide) hq hH.2.2.2.2 hdg hlk2)
          · cases h1
        · exact h.elim
      | lreturn =>
        obtain ⟨L, st, M⟩ := S
        obtain ⟨hx, hb, hml, hown, hts, hr, hlk2, hKk, hin, hbs, hKc⟩ := F
        simp only at h
        split at h
        · rename_i x hrt
          intro H locs ls hH hl
          exact mj_W_mono (hQX below args s) (W.lret hx hb (by rw [hr, hrt]) (mj_leave (as := args) hbs hKk hKc hH (some (.long x)) h) hH.2.2.2.2 hdg hlk2)
        · exact h.elim
      | return_ =>
        obtain ⟨L, st, M⟩ := S
        obtain ⟨hx, hb, hml, hown, hts, hr, hlk2, hKk, hin, hbs, hKc⟩ := F
        simp only at h
        split at h
        · rename_i hrt
          intro H locs ls hH hl
          exact mj_W_mono (hQX below args s) (W.vret hx hb (by rw [hr, hrt]) (mj_leave (as := args) hbs hKk hKc hH none h) hH.2.2.2.2 hdg hlk2)
        · exact h.elim
      | invokevirtual k =>
        obtain ⟨L, st, M⟩ := S
        simp only at h
        split at h
        · rename_i kd n pt hcl
          split at h
          · rename_i hd
            obtain ⟨rfl, h1, h2⟩ := of_decide_eq_true hd
            have hc := hcs _ (mj_lookup_mem hcl) p e s m args below meth c (QX below args s) R 0 0 pc L (st.take n).reverse (st.drop n) M _ F ⟨hRX.1, hRX.2, Nat.zero_le _, Nat.zero_le _⟩ hdg (by simp [List.length_take, h1]) h2 h (fun r M' hr => ih _ _ _ hr p e s m args below meth c F)
            rw [List.reverse_reverse, List.take_append_drop] at hc
            exact hc
          · exact h.elim
        · exact h.elim
      | invokestatic k =>
        obtain ⟨L, st, M⟩ := S
        simp only at h
        split at h
        · rename_i kd n pt hcl
          split at h
          · rename_i hd
            obtain ⟨rfl, h1, h2⟩ := of_decide_eq_true hd
            have hc := hcs _ (mj_lookup_mem hcl) p e s m args below meth c (QX below args s) R 0 0 pc L (st.take n).reverse (st.drop n) M _ F ⟨hRX.1, hRX.2, Nat.zero_le _, Nat.zero_le _⟩ hdg (by simp [List.length_take, h1]) h2 h (fun r M' hr => ih _ _ _ hr p e s m args below meth c F)
            rw [List.reverse_reverse, List.take_append_drop] at hc
            exact hc
          · exact h.elim
        · exact h.elim
      | invokespecial k =>
        obtain ⟨L, st, M⟩ := S
        simp only at h
        split at h
        · rename_i kd n pt hcl
          split at h
          · rename_i hd
            obtain ⟨rfl, h1, h2⟩ := of_decide_eq_true hd
            have hc := hcs _ (mj_lookup_mem hcl) p e s m args below meth c (QX below args s) R 0 0 pc L (st.take n).reverse (st.drop n) M _ F ⟨hRX.1, hRX.2, Nat.zero_le _, Nat.zero_le _⟩ hdg (by simp [List.length_take, h1]) h2 h (fun r M' hr => ih _ _ _ hr p e s m args below meth c F)
            rw [List.reverse_reverse, List.take_append_drop] at hc
            exact hc
          · exact h.elim
        · exact h.elim
      | getstatic k => exact mj_gst_ok F hdg h (fun S' h' => ih _ _ _ h' p e s m args below meth c F)
      | new k => exact (show False from h).elim
      | _ => exact mj_stp_ok F hdg h (fun S' h' => ih _ _ _ h' p e s m args below meth c F)
theorem mj_wp_ok {P : List (Nat × Instr × Nat)} {cut : List (Nat × List Bool)} {cs : List (Nat × Nat × Nat × mj_PT)} {K : Nat → mj_S → Prop} (hP : mj_pd μ.2.2.1 P) (hcs : ∀ q ∈ cs, mj_Call Ω l al μ d q.1 q.2.1 q.2.2.1 q.2.2.2) (hK : ∀ pc S, K pc S → mj_G Ω l al μ d 0 0 Φ 0 0 pc S) (f : Nat) (go : Bool) (pc : Nat) (S : mj_S) (h : mj_wp μ P cut cs Φ K f go pc S) : mj_G Ω l al μ d 0 0 Φ 0 0 pc S :=
  mj_wp_okX (R := mj_rm d 0 0) (QX := fun below args s => MQ below (mj_Qc Ω al Φ) args s 0 0 (mj_A Ω)) ⟨Nat.le_refl _, Nat.le_refl _⟩ (fun _ _ _ _ h => h) hP hcs hK f go pc S h
end MJW
