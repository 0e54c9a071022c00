/-! ===== making: objects, arrays; constructors' calls ===== -/
theorem vr_outer (c : ClassId) (N h0 : Nat) : ∀ i : Nat, Jvm.Free.Multi.outerC c N h0 i = arrV c N (fun j => va_rf (if j < i then some (h0 + 1 + j) else none))
  | 0 => by
    show ({ cls := c, slots := Array.replicate N .null, vm := .none } : Cell) = _
    rw [arrV_new]
    refine congrArg (arrV c N) (funext fun j => ?_)
    simp [va_rf]
  | i + 1 => by
    show (Jvm.Free.Multi.outerC c N h0 i).setSlot i (.ref (h0 + 1 + i)) = _
    rw [vr_outer c N h0 i, arrV_store]
    refine congrArg (arrV c N) (funext fun j => ?_)
    by_cases e : j = i
    · subst e
      simp [updV, va_rf]
    · by_cases h : j < i
      · simp [updV, e, h, Nat.lt_succ_of_lt h]
      · simp [updV, e, h, show ¬ j < i + 1 by omega]
section MJN
variable {p : Program} {l : Launch} {e : Env} {R : Room} {s : State} {m : MethodId} {args : Array Value} {below : List Frame} {meth : Method} {c : Code} {cells slots : Nat} {Q : State → Prop}
variable {Ω : mj_Om} {o : Nat} {ini : Bool} {cc : ByteArray} {nL pc : Nat} {ret : Option FieldType} {L : List (Option Value)} {st : List Value} {M : mj_M}
theorem mj_w_push {sh : Nat × Nat} : mj_w Ω (M.1 ++ [sh], M.2) = mj_w Ω M ++ [(Ω.2.2.1 + M.1.length, mj_cell Ω (M.1 ++ [sh], M.2) M.1.length sh)] := by
  unfold mj_w
  rw [List.mapIdx_concat]
  congr 1
theorem mj_q_len (h : M.1.length < 1000) : mj_q Ω M.1.length = Ω.2.2.1 + M.1.length := by simp [mj_q, h]
/-- a new object -/
theorem mj_new_ok (F : mj_F Ω p s m args meth c o ini cc nL ret) {idx ci : Nat} {q : vw_C} (hdg : decode cc pc = .ok (.new idx, 3)) (hq : vwCl[ci]? = some q) (hcl : Cond.classLink (mj_own.getD o "") idx q.1 ∈ mj_GW) (hins : Cond.instantiable q.1 q.2.2 ∈ mj_GW) (hini : Cond.initialized q.1 ∈ mj_GW)
    (hlen : M.1.length < 1000) (hI : ∀ k, M.2.2.1 M.1.length k = 0) (hJ : ∀ k, M.2.2.2 M.1.length k = 0) (hR : ∀ k, mj_rf M M.1.length k = none) (hc : cells + 1 ≤ R.cells) (hs : slots + q.2.2 ≤ R.slots)
    (hk : mj_Wg Ω true nL p l e R s m args below meth c (cells + 1) (slots + q.2.2) Q (pc + 3) (L, .ref M.1.length :: st, M.1 ++ [(ci + 4, 0)], M.2)) : mj_Wg Ω true nL p l e R s m args below meth c cells slots Q pc (L, st, M) := by
  intro H locs ls hH hl
  obtain ⟨hx, hb, hml, hown, hts, hr, hlk, hK, hin, hbs, hKc⟩ := F
  have hC := mj_cls hq
  have hsz := hH.2.1 rfl
  have hKn := hK.1 ci _ hq
  have hty : ∀ j, j < q.2.2 → parseFieldDescriptor (q.2.1 j).2.2.1 = some ((parseFieldDescriptor (q.2.1 j).2.2.1).getD .int) := by
    intro j hj
    have h4 := (hC.2.2.1 j hj).1
    cases hp : parseFieldDescriptor (q.2.1 j).2.2.1 with
    | some ty => rfl
    | none =>
      rw [hp] at h4
      simp only [mj_ftOk] at h4
      split at h4 <;> first | (rename_i hz; cases hz; done) | cases h4
  have hfs : ∀ j, j < q.2.2 → defaultValue ((parseFieldDescriptor (q.2.1 j).2.2.1).getD .int) = vp_V (mj_fs Ω (M.1 ++ [(ci + 4, 0)], M.2) M.1.length ci) j := by
    intro j hj
    have hjl : j < (mj_kds ci).length := by rw [hC.2.1]; exact hj
    have h4 := (hC.2.2.1 j hj).1
    rw [hty j hj] at h4
    have h5 := mj_fs_at (Ω := Ω) (M := (M.1 ++ [(ci + 4, 0)], M.2)) (a := M.1.length) hjl
    have h6 : vp_V (mj_fs Ω (M.1 ++ [(ci + 4, 0)], M.2) M.1.length ci) j = mj_v Ω (mj_fv (M.1 ++ [(ci + 4, 0)], M.2) M.1.length ((mj_kds ci).getD j 0) j) := by
      simp only [vp_V, List.getD_eq_getElem?_getD, h5, Option.getD_some]
    rw [h6]
    revert h4
    generalize (parseFieldDescriptor (q.2.1 j).2.2.1).getD .int = ty
    intro h4
    have h9 : (mj_kds ci).getD j 9 = (mj_kds ci).getD j 0 := (mj_kd9 rfl hjl).symm
    rw [h9] at h4
    generalize (mj_kds ci).getD j 0 = kd at h4 ⊢
    have hr0 : mj_rf (M.1 ++ [(ci + 4, 0)], M.2) M.1.length j = none := hR j
    unfold mj_ftOk at h4
    split at h4
    · rename_i hz; cases hz
      simp only [mj_fv, mj_v, hI]; rfl
    · rename_i hz; cases hz
      simp only [mj_fv, mj_v, hI]; rfl
    · rename_i hz; cases hz
      simp only [mj_fv, mj_v, hJ]; rfl
    · rename_i hz; cases hz
      simp only [mj_fv, hr0, mj_rv, mj_v]; rfl
    · rename_i hz; cases hz
      simp only [mj_fv, hr0, mj_rv, mj_v]; rfl
    · cases h4
  refine W.newcK hx hb hown (hts _ hcl) (hts _ hins) (hts _ hini) rfl hdg hc hs hKn.2.1 rfl fun H1 kC hkC e1 z1 o1 => ?_
  have hb1 := u_born (fun j => (parseFieldDescriptor (q.2.1 j).2.2.1).getD .int) (ws := mj_GW) hts hC.1 hKn hkC e1 hty
  have hP : va_P Ω.1 vwCl (mj_w Ω (M.1 ++ [(ci + 4, 0)], M.2)) H1 := by
    rw [mj_w_push]
    refine (hH.1.kept (fun k x hx => o1 x.1 ((hH.1 k x hx).lt))).app (fun k x hx => ?_)
    have hz : k < 1 := (List.getElem?_eq_some_iff.mp hx).1
    rw [show k = 0 by omega] at hx
    cases hx
    rw [← hsz]
    exact ⟨_, hq, hb1.to hfs⟩
  have k9 := hk H1 locs ls ⟨hP, fun _ => by rw [z1, hsz, List.length_append]; rfl, ⟨Nat.le_trans hH.2.2.1 (by rw [z1]; omega), fun x h1 h2 => (o1 x (Nat.lt_of_lt_of_le h1 hH.2.2.1)).trans (hH.2.2.2.1 x h1 h2), hH.2.2.2.2⟩⟩ hl
  rw [List.map_cons] at k9
  simp only [mj_v, mj_q_len hlen] at k9
  rw [← hsz] at k9
  exact k9
def mj_aty : Nat → ArrayType
  | 0 => .int
  | 1 => .boolean
  | _ => .long
/-- a new array of ints, booleans, longs -/
theorem mj_newa_ok (F : mj_F Ω p s m args meth c o ini cc nL ret) {t N : Nat} {n : Int32} (ht : t < 3) (hdg : decode cc pc = .ok (.newarray (mj_aty t), 2)) (harr : Cond.arrayClass (newarray.typeOf (mj_aty t)) ∈ mj_GW) (hn : ¬ n < 0) (hN : n.toNatClampNeg = N) (hN2 : N ≤ 10000)
    (hlen : M.1.length < 1000) (hI : ∀ k, M.2.2.1 M.1.length k = 0) (hJ : ∀ k, M.2.2.2 M.1.length k = 0) (hc : cells + 1 ≤ R.cells) (hs : slots + N ≤ R.slots)
    (hk : mj_Wg Ω true nL p l e R s m args below meth c (cells + 1) (slots + N) Q (pc + 2) (L, .ref M.1.length :: st, M.1 ++ [(t, N)], M.2)) : mj_Wg Ω true nL p l e R s m args below meth c cells slots Q pc (L, .int n :: st, M) := by
  intro H locs ls hH hl
  obtain ⟨hx, hb, hml, hown, hts, hr, hlk, hK, hin, hbs, hKc⟩ := F
  have hsz := hH.2.1 rfl
  refine va_newaK hx hb (hts _ harr) rfl hdg rfl hn hN (by
    have : componentBytes (newarray.typeOf (mj_aty t)) ≤ 8 := by
      match t, ht with
      | 0, _ => decide
      | 1, _ => decide
      | 2, _ => decide
    calc N * componentBytes (newarray.typeOf (mj_aty t)) ≤ 10000 * 8 := Nat.mul_le_mul hN2 this
      _ ≤ 536870912 := by decide) hc hs rfl fun H1 cA e1 z1 o1 hAr hNm => ?_
  have hI0 : M.2.2.1 M.1.length = fun _ => 0 := funext hI
  have hJ0 : M.2.2.2 M.1.length = fun _ => 0 := funext hJ
  have hcell : va_at Ω.1 vwCl (Ω.2.2.1 + M.1.length, mj_cell Ω (M.1 ++ [(t, N)], M.2) M.1.length (t, N)) H1 := by
    rw [← hsz]
    match t, ht with
    | 0, _ =>
      have hcA : cA = Ω.2.1 0 := Option.some.inj (hNm.symm.trans (hK.2 0 _ rfl).2)
      show H1[H.size]? = some (vp_cell (Ω.2.1 0) (N, .inl (M.2.2.1 M.1.length)))
      rw [hI0, vp_cell_i, ← hcA]
      exact e1
    | 1, _ =>
      have hcA : cA = Ω.2.1 1 := Option.some.inj (hNm.symm.trans (hK.2 1 _ rfl).2)
      show H1[H.size]? = some (vp_cell (Ω.2.1 1) (N, .inl (M.2.2.1 M.1.length)))
      rw [hI0, vp_cell_i, ← hcA]
      exact e1
    | 2, _ =>
      have hcA : cA = Ω.2.1 2 := Option.some.inj (hNm.symm.trans (hK.2 2 _ rfl).2)
      show H1[H.size]? = some (vp_cell (Ω.2.1 2) (N, .inr (.inl (M.2.2.2 M.1.length))))
      rw [hJ0, vp_cell_l, ← hcA]
      exact e1
  have hP : va_P Ω.1 vwCl (mj_w Ω (M.1 ++ [(t, N)], M.2)) H1 := by
    rw [mj_w_push]
    refine (hH.1.kept (fun k x hx => o1 x.1 ((hH.1 k x hx).lt))).app (fun k x hx => ?_)
    have hz : k < 1 := (List.getElem?_eq_some_iff.mp hx).1
    rw [show k = 0 by omega] at hx
    cases hx
    exact hcell
  have k9 := hk H1 locs ls ⟨hP, fun _ => by rw [z1, hsz, List.length_append]; rfl, ⟨Nat.le_trans hH.2.2.1 (by rw [z1]; omega), fun x h1 h2 => (o1 x (Nat.lt_of_lt_of_le h1 hH.2.2.1)).trans (hH.2.2.2.1 x h1 h2), hH.2.2.2.2⟩⟩ hl
  rw [List.map_cons] at k9
  simp only [mj_v, mj_q_len hlen] at k9
  rw [← hsz] at k9
  exact k9
/-- Object's constructor -/
theorem mj_obj_ok (F : mj_F Ω p s m args meth c o ini cc nL ret) {idx a : Nat} {al : Bool} (hdg : decode cc pc = .ok (.invokespecial idx, 3)) (hlk : Cond.methodLink (mj_own.getD o "") idx Lib.objectInit ∈ mj_GW) (hi : Cond.instanceMethod Lib.objectInit ∈ mj_GW) (hcd : Cond.code Lib.objectInit ⟨#[0xb1]⟩ 1 none ∈ mj_GW) (hf : 1 ≤ R.frames) (hlo : (st.map (fun v => v.category)).sum + 12 ≤ R.locals)
    (hk : mj_Wg Ω al nL p l e R s m args below meth c cells slots Q (pc + 3) (L, st, M)) : mj_Wg Ω al nL p l e R s m args below meth c cells slots Q pc (L, .ref a :: st, M) := by
  intro H locs ls hH hl
  obtain ⟨hx, hb, hml, hown, hts, hr, hlk2, hK, hin, hbs, hKc⟩ := F
  refine W.objInit hx hb hown (hts _ hlk) (hts _ hi) (hts _ hcd) rfl (by rw [hml]; exact hl.1) (a := mj_q Ω a) (rest := st.map (mj_v Ω)) rfl hdg hf (by
    show 2 * 0 + _ + 12 ≤ _
    have : ((st.map (mj_v Ω)).map fun v => v.category) = st.map (fun v => v.category) := by rw [List.map_map]; exact List.map_congr_left (fun v _ => mj_v_cat Ω v)
    rw [this]; omega) ?_
  exact hk H locs ls hH hl
/-- the words that a constructor's call asks, by a link of its own or of a nest mate's -/
theorem mj_ctor_ok (F : mj_F Ω p s m args meth c o ini cc nL ret) {μ' : mj_m} {d' mc ms idx a n : Nat} {as : List Value} {Φ : Option Value → mj_M → Prop} {host : String} (hdg : decode cc pc = .ok (.invokespecial idx, 3)) (hM : mj_Met Ω l true μ' d' mc ms (.ref a :: as) M Φ) (hf : mj_mf μ') (hy1 : μ'.2.2.2.2.2.name = "<init>") (hret : μ'.2.2.2.2.1 = none) (hi : Cond.instanceMethod μ'.2.2.2.2.2 ∈ mj_GW)
    (hn : mj_np μ' = some n) (hlen : as.length = n) (hlk : Cond.methodLink (mj_own.getD o "") idx μ'.2.2.2.2.2 ∈ mj_GW ∨ Cond.methodLinkNest (mj_own.getD o "") idx μ'.2.2.2.2.2 host ∈ mj_NW) (hR : d' + 1 ≤ R.frames ∧ 64 * (d' + 1) ≤ R.locals) (hcs : cells + mc ≤ R.cells ∧ slots + ms ≤ R.slots) (hW : (st.map (fun v => v.category)).sum ≤ 8)
    (hk : ∀ r M', Φ r M' → mj_Wg Ω true nL p l e R s m args below meth c (cells + mc) (slots + ms) Q (pc + 3) (L, r.toList ++ st, M')) : mj_Wg Ω true nL p l e R s m args below meth c cells slots Q pc (L, as.reverse ++ .ref a :: st, M) := by
  intro H locs ls hH hl
  obtain ⟨hx, hb, hml, hown, hts, hr, hlk2, hK, hin, hbs, hKc⟩ := F
  have hG : GoodIn mj_GW (mj_ws μ') := by
    intro w hw
    unfold mj_ws at hw
    rcases List.mem_cons.mp hw with rfl | hw
    · exact mj_good hf.1
    · exact mj_good hw
  have hws : mj_ws μ' = Cond.code μ'.2.2.2.2.2 μ'.2.2.1 μ'.2.2.2.1 none :: mj_GW := by unfold mj_ws; rw [hret]
  have hrest : 2 * 0 + ((st.map (mj_v Ω)).map fun v => v.category).sum ≤ 8 := by
    have : ((st.map (mj_v Ω)).map fun v => v.category) = st.map (fun v => v.category) := by rw [List.map_map]; exact List.map_congr_left (fun v _ => mj_v_cat Ω v)
    rw [this]; omega
  have hRR : (mj_rm d' mc ms).frames + 1 ≤ R.frames ∧ 8 + (μ'.2.2.2.1 + 11) + (mj_rm d' mc ms).locals ≤ R.locals := ⟨hR.1, by show 8 + (μ'.2.2.2.1 + 11) + 64 * d' ≤ R.locals; have := hf.2.2.1; have := hR.2; omega⟩
  have hpre : PreS s H (mj_Pc Ω true (.ref a :: as) M) ((.ref a :: as).map (mj_v Ω)) := ⟨mj_blind, fun U hU hWm => ⟨rfl, by rw [hU]; exact hH.1, by rw [hU]; exact hH.2.1, by rw [hU]; exact Nat.le_trans hbs hH.2.2.1, va_K.moved hWm.alike hK, mj_Kc_warm hKc hWm (fun a h1 h2 => by rw [hU]; exact hH.2.2.2.1 a h1 h2)⟩⟩
  rcases hlk with hlk | hlk
  · have cw := cwI (R := R) (s := s) (args := args) (own := mj_own.getD o "") (index := idx) (y := μ'.2.2.2.2.2) (bytes := μ'.2.2.1) (maxL := μ'.2.2.2.1) (ws := mj_ws μ') (rm := mj_rm d' mc ms) (mc := mc) (ms := ms) n hts hG hws rfl rfl (hts _ hf.2.1) (hts _ hlk) (hts _ hi) hy1 ⟨hf.2.2.2.1, hf.2.2.2.2, hn⟩ hRR
    have run := va_runI (l := l) (e := e) (below := below) (meth := meth) (cells := cells) (slots := slots) (locs := locs) (As := as.map (mj_v Ω)) (rest := st.map (mj_v Ω)) (g := F0 m pc ls ((as.reverse ++ .ref a :: st).map (mj_v Ω))) (b := mj_q Ω a) (H := H) ⟨hx, hb, hml, hown, hts⟩ hM cw hpre rfl (by simpa using hlen) hl.1 (by simp [mj_v]) hrest hdg hcs
    exact mj_after run hH.2.2 hl hk
  · have cn := va_cnB (R := R) (s := s) (args := args) (own := mj_own.getD o "") (host := host) (index := idx) (y := μ'.2.2.2.2.2) (bytes := μ'.2.2.1) (maxL := μ'.2.2.2.1) (ret := none) (ws := mj_ws μ') (rm := mj_rm d' mc ms) (mc := mc) (ms := ms) n hts hG hws rfl rfl (hKc.1 _ hlk) (hts _ hf.2.1) ⟨hf.2.2.2.1, hf.2.2.2.2, hn⟩ hRR
    have run := va_runIN (l := l) (e := e) (below := below) (meth := meth) (cells := cells) (slots := slots) (locs := locs) (As := as.map (mj_v Ω)) (rest := st.map (mj_v Ω)) (g := F0 m pc ls ((as.reverse ++ .ref a :: st).map (mj_v Ω))) (b := mj_q Ω a) (H := H) ⟨hx, hb, hml, hown, hts⟩ hM ⟨cn, hy1, hts _ hi⟩ hpre rfl (by simpa using hlen) hl.1 (by simp [mj_v]) hrest hdg hcs
    exact mj_after run hH.2.2 hl hk
/-- int[n][k] -/
theorem mj_mna_ok (F : mj_F Ω p s m args meth c o ini cc nL ret) {idx N K : Nat} {n k : Int32} (hdg : decode cc pc = .ok (.multianewarray idx 2, 4)) (hcl : Cond.classLink (mj_own.getD o "") idx ("[" ++ (FieldType.array .int).toString) ∈ mj_GW) (hov : Cond.arrayOver (.array .int) ∈ mj_NW) (harr : Cond.arrayClass .int ∈ mj_GW) (hn : ¬ n < 0) (hk0 : ¬ k < 0) (hN : n.toNatClampNeg = N) (hKK : k.toNatClampNeg = K) (hN2 : N ≤ 100) (hK2 : K ≤ 1000)
    (hlen : M.1.length + N + 1 < 1000) (hI : ∀ j b, j ≤ N → M.2.2.1 (M.1.length + j) b = 0) (hR : ∀ b, mj_rf M M.1.length b = none) (hR2 : ∀ b, mj_rf (M.1, (List.range N).map (fun j => ((M.1.length, j), M.1.length + 1 + j)) ++ M.2.1, M.2.2) M.1.length b = if b < N then some (M.1.length + 1 + b) else none) (hR3 : ∀ a b, a ≠ M.1.length → mj_rf (M.1, (List.range N).map (fun j => ((M.1.length, j), M.1.length + 1 + j)) ++ M.2.1, M.2.2) a b = mj_rf M a b) (hc : cells + (1 + N) ≤ R.cells) (hs : slots + (N + N * K) ≤ R.slots)
    (hk : mj_Wg Ω true nL p l e R s m args below meth c (cells + 1 + N) (slots + N + N * K) Q (pc + 4) (L, .ref M.1.length :: st, M.1 ++ (3, N) :: List.replicate N (0, K), (List.range N).map (fun j => ((M.1.length, j), M.1.length + 1 + j)) ++ M.2.1, M.2.2)) : mj_Wg Ω true nL p l e R s m args below meth c cells slots Q pc (L, .int k :: .int n :: st, M) := by
  intro H locs ls hH hl
  obtain ⟨hx, hb, hml, hown, hts, hr, hlk, hK, hin, hbs, hKc⟩ := F
  have hsz : H.size = Ω.2.2.1 + M.1.length := hH.2.1 rfl
  subst hN
  subst hKK
  intro T hT Xs
  obtain ⟨vm₁, cA, comp, -, fA, fC, hO, -, X', step⟩ := Xs.multianewarray2F hx hown (hts _ hcl) (show (Cond.arrayOver (.array .int)).before args s = true from hKc.1 _ hov) (hts _ harr) (g := F0 m pc ls (.int k :: .int n :: st.map (mj_v Ω))) rfl (by rw [hb]; exact hdg) rfl hn hk0 (by omega) (by
    show k.toNatClampNeg * 4 ≤ 536870912
    omega) (by omega) rfl rfl hc hs
  have eA : cA = Ω.2.1 3 := Option.some.inj (fA.symm.trans (hK.2 3 _ rfl).2)
  have eC : comp = Ω.2.1 0 := Option.some.inj (fC.symm.trans (hK.2 0 _ rfl).2)
  subst eA
  subst eC
  generalize hF : Jvm.Free.Multi.fill (T.setVm vm₁) (Ω.2.1 3) (Ω.2.1 0) n.toNatClampNeg k.toNatClampNeg (defaultValue .int) n.toNatClampNeg = FF at X' step
  have hTh : (T.setVm vm₁).heap = H := hT
  obtain ⟨f1, f2, -, -⟩ := Jvm.Free.Multi.fill_facts (T.setVm vm₁) (Ω.2.1 3) (Ω.2.1 0) n.toNatClampNeg k.toNatClampNeg (defaultValue .int) n.toNatClampNeg
  rw [hF, hTh] at f1 f2
  have hold : ∀ x : Nat, x < H.size → FF.heap[x]? = H[x]? := fun x hx => by
    have := Jvm.Free.Multi.fill_old (T.setVm vm₁) (Ω.2.1 3) (Ω.2.1 0) n.toNatClampNeg k.toNatClampNeg (defaultValue .int) (a := x) (by rw [hTh]; exact hx) n.toNatClampNeg
    rw [hF, hTh] at this
    exact this
  have hrow : ∀ j : Nat, j < n.toNatClampNeg → FF.heap[H.size + 1 + j]? = some (Jvm.Free.Multi.innerC (Ω.2.1 0) k.toNatClampNeg (defaultValue .int)) := fun j hj => by
    have := Jvm.Free.Multi.fill_inner (T.setVm vm₁) (Ω.2.1 3) (Ω.2.1 0) n.toNatClampNeg k.toNatClampNeg (defaultValue .int) n.toNatClampNeg j hj
    rw [hF, hTh] at this
    exact this
  have hP : va_P Ω.1 vwCl (mj_w Ω (M.1 ++ (3, n.toNatClampNeg) :: List.replicate n.toNatClampNeg (0, k.toNatClampNeg), (List.range n.toNatClampNeg).map (fun j => ((M.1.length, j), M.1.length + 1 + j)) ++ M.2.1, M.2.2)) FF.heap := by
    intro i q hq
    simp only [mj_w, List.getElem?_mapIdx, Option.map_eq_some_iff] at hq
    obtain ⟨sh, hsh, rfl⟩ := hq
    by_cases h1 : i < M.1.length
    · rw [List.getElem?_append_left h1] at hsh
      have h0 : (mj_w Ω M)[i]? = some (Ω.2.2.1 + i, mj_cell Ω M i sh) := by simp [mj_w, List.getElem?_mapIdx, hsh]
      have h2 := hH.1 i _ h0
      have e7 : mj_cell Ω (M.1 ++ (3, n.toNatClampNeg) :: List.replicate n.toNatClampNeg (0, k.toNatClampNeg), (List.range n.toNatClampNeg).map (fun j => ((M.1.length, j), M.1.length + 1 + j)) ++ M.2.1, M.2.2) i sh = mj_cell Ω M i sh := mj_cell_cong rfl rfl (fun b => hR3 i b (by omega))
      rw [e7]
      exact h2.kept (hold _ h2.lt)
    · rw [List.getElem?_append_right (by omega)] at hsh
      obtain ⟨j, rfl⟩ : ∃ j, i = M.1.length + j := ⟨i - M.1.length, by omega⟩
      rw [show M.1.length + j - M.1.length = j by omega] at hsh
      match j, hsh with
      | 0, hsh =>
        cases hsh
        show FF.heap[Ω.2.2.1 + (M.1.length + 0)]? = some (vp_cell (Ω.2.1 3) (n.toNatClampNeg, .inr (.inr (.inr (.inr (fun b => (mj_rf _ (M.1.length + 0) b).map (mj_q Ω)))))))
        rw [Nat.add_zero, ← hsz, f2, vp_cell_q, vr_outer]
        congr 2
        funext b
        show va_rf _ = va_rf ((mj_rf (M.1, (List.range n.toNatClampNeg).map (fun j => ((M.1.length, j), M.1.length + 1 + j)) ++ M.2.1, M.2.2) M.1.length b).map (mj_q Ω))
        rw [hR2 b]
        by_cases hb9 : b < n.toNatClampNeg
        · rw [if_pos hb9, if_pos hb9, Option.map_some, hsz]
          congr 2
          simp only [mj_q]
          rw [if_pos (by omega)]
          omega
        · rw [if_neg hb9, if_neg hb9]
          rfl
      | j + 1, hsh =>
        rw [List.getElem?_cons_succ] at hsh
        have hj : j < n.toNatClampNeg := by
          have := (List.getElem?_eq_some_iff.mp hsh).1
          simpa using this
        rw [List.getElem?_replicate, if_pos hj] at hsh
        cases hsh
        have h0 : M.2.2.1 (M.1.length + (j + 1)) = fun _ => 0 := funext (fun b => hI (j + 1) b (by omega))
        show FF.heap[Ω.2.2.1 + (M.1.length + (j + 1))]? = some (vp_cell (Ω.2.1 0) (k.toNatClampNeg, .inl (M.2.2.1 (M.1.length + (j + 1)))))
        rw [h0, vp_cell_i, show Ω.2.2.1 + (M.1.length + (j + 1)) = H.size + 1 + j by omega, hrow j hj]
        rw [← arrV_new]
        rfl
  have hk9 := hk FF.heap locs ls ⟨hP, fun _ => by
    show FF.heap.size = _
    rw [f1, hsz]
    simp only [List.length_append, List.length_cons, List.length_replicate]
    omega, ⟨Nat.le_trans hH.2.2.1 (by rw [f1]; omega), fun x h1 h2 => (hold x (Nat.lt_of_lt_of_le h1 hH.2.2.1)).trans (hH.2.2.2.1 x h1 h2), hH.2.2.2.2⟩⟩ hl FF rfl X'
  obtain ⟨t, a1, b1⟩ := hk9
  refine ⟨t, step t ?_, b1⟩
  have e9 : T.heap.size = H.size := by rw [hT]
  rw [e9]
  have e8 : mj_v Ω (.ref M.1.length) = .ref H.size := by
    simp only [mj_v, mj_q]
    rw [if_pos (by omega), hsz]
  rw [List.map_cons, e8] at a1
  exact a1
end MJN
