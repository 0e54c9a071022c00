/-! ===== entry and calls ===== -/
def mj_flat (as : List Value) : List (Option Value) := as.flatMap (fun v => if v.category = 2 then [some v, none] else [some v])
def mj_ent (nL : Nat) (as : List Value) : List (Option Value) := mj_flat as ++ List.replicate (nL - (mj_flat as).length) none
/-- a call through an object of class ci -/
def mj_rcv (ci : Nat) (pt : mj_PT) : mj_PT := fun as M Φ => match as with
  | .ref a :: _ => match decide (mj_sh M a = some (ci + 4, 0)) with
    | true => pt as M Φ
    | false => False
  | _ => False
section MJE
variable {Ω : mj_Om} {l : Launch} {al : Bool} {μ : mj_m} {d mc ms : Nat} {Φ : Option Value → mj_M → Prop} {M : mj_M} {as : List Value}
theorem mj_flat_in : ∀ (as : List Value) (n0 i : Nat) (v : Value), (mj_flat as)[i]? = some (some v) → (n0 + i, mj_v Ω v) ∈ lv_args n0 (as.map (mj_v Ω))
  | [], n0, i, v, h => by simp [mj_flat] at h
  | a :: as, n0, i, v, h => by
    have hf : mj_flat (a :: as) = (if a.category = 2 then [some a, none] else [some a]) ++ mj_flat as := rfl
    rw [hf] at h
    rw [List.map_cons, lv_args, mj_v_cat]
    by_cases hc : a.category = 2
    · rw [if_pos hc] at h ⊢
      match i, h with
      | 0, h => simp at h; subst h; exact List.mem_cons_self
      | 1, h => simp at h
      | i + 2, h =>
        have h2 : (mj_flat as)[i]? = some (some v) := by simpa using h
        have := mj_flat_in as (n0 + 2) i v h2
        rw [show n0 + (i + 2) = n0 + 2 + i by omega]
        exact List.mem_cons_of_mem _ this
    · rw [if_neg hc] at h ⊢
      match i, h with
      | 0, h => simp at h; subst h; exact List.mem_cons_self
      | i + 1, h =>
        have h2 : (mj_flat as)[i]? = some (some v) := by simpa using h
        have := mj_flat_in as (n0 + 1) i v h2
        rw [show n0 + (i + 1) = n0 + 1 + i by omega]
        exact List.mem_cons_of_mem _ this
theorem mj_flat_len : ∀ (as : List Value), (lg_sl (as.map (mj_v Ω))).length = (mj_flat as).length
  | [] => rfl
  | a :: as => by
    have hf : mj_flat (a :: as) = (if a.category = 2 then [some a, none] else [some a]) ++ mj_flat as := rfl
    have hg : lg_sl ((a :: as).map (mj_v Ω)) = (if (mj_v Ω a).category = 2 then [.val (mj_v Ω a), .second] else [.val (mj_v Ω a)]) ++ lg_sl (as.map (mj_v Ω)) := rfl
    rw [hf, hg, List.length_append, List.length_append, mj_flat_len as, mj_v_cat]
    by_cases hc : a.category = 2
    · rw [if_pos hc, if_pos hc]; rfl
    · rw [if_neg hc, if_neg hc]; rfl
theorem mj_entry (hy : plainName μ.2.2.2.2.2.cls = true) (ho : mj_own.getD μ.1 "" = μ.2.2.2.2.2.cls) (hi : μ.2.1 = true → μ.2.2.2.2.2.name = "<init>") (ha : (mj_flat as).length ≤ μ.2.2.2.1)
    (h : mj_G Ω l al μ d mc ms Φ 0 0 0 (mj_ent μ.2.2.2.1 as, [], M)) : mj_Met Ω l al μ d mc ms as M Φ := by
  refine Met.ofW (cc := μ.2.2.1) (maxL := μ.2.2.2.1) (ret := μ.2.2.2.2.1) hy rfl ?_
  intro p e s m args below meth c s₁ B hml hv
  obtain ⟨rfl, hP, hal, hbs, hK, hKc⟩ := hv
  have hts := atoms_spec (ws := mj_ws μ) B.pre
  have hown : s.vm.findClass (mj_own.getD μ.1 "") = some m.cls := by rw [ho]; exact findClass_of_methodNamed B.named
  have F : mj_F Ω p s m (as.map (mj_v Ω)).toArray meth c μ.1 μ.2.1 μ.2.2.1 μ.2.2.2.1 μ.2.2.2.2.1 :=
    ⟨B.exec, B.bytes, hml, hown, fun w hw => hts w (List.mem_cons_of_mem _ hw), B.returns, B.notSynchronized, hK, fun q => ((name_of_methodNamed B.named B.method).1).trans (hi q), hbs, hKc⟩
  have hle : (lg_sl (as.map (mj_v Ω))).length ≤ μ.2.2.2.1 := by rw [mj_flat_len]; exact ha
  have hl := lv_entry (as.map (mj_v Ω)) hle
  rw [lg_entry_eq]
  refine h p e s m _ below meth c F s.heap [] _ ⟨hP, hal, va_S.rf⟩ ⟨hl.1, hl.2.1, fun i v hiv => ?_⟩
  have hil : i < (mj_flat as).length := by
    rcases Nat.lt_or_ge i (mj_flat as).length with q | q
    · exact q
    · simp only [mj_ent] at hiv
      rw [List.getElem?_append_right q] at hiv
      have := List.mem_of_getElem? hiv
      simp at this
  have h2 : (mj_flat as)[i]? = some (some v) := by
    simp only [mj_ent] at hiv
    rwa [List.getElem?_append_left hil] at hiv
  have := hl.2.2 _ (mj_flat_in (Ω := Ω) as 0 i v h2)
  simpa using this
theorem mj_good {w : Cond} (h : w ∈ mj_GW) : w ∈ mj_GW ∧ ((w.onTables && w.keeps) = true ∨ ∃ ty, w = .arrayClass ty) := ⟨h, good_of_word (List.mem_filter.mp h).2⟩
theorem mj_blind : FrameBlind (mj_Pc Ω al as M) := by
  intro a U g mk q
  obtain ⟨q1, q2, q3, q4, q5, q6⟩ := q
  exact ⟨q1, q2, q3, q4, va_K.moved (u := U) (U := U.calling g mk a) (Vm.Alike.refl U.vm) q5, mj_Kc_same q6 rfl rfl⟩
/-- behind a call -/
theorem mj_after {p : Program} {e : Env} {R : Room} {s : State} {m : MethodId} {args : Array Value} {below : List Frame} {meth : Method} {c : Code} {H : Heap} {locs : List Loc} {cells slots k n : Nat} {Q : State → Prop} {pc : Nat} {ls : Array Slot} {st0 rest : List Value} {a : Array Value} {nL : Nat} {L : List (Option Value)}
    (hr : va_Run p l e R s m args below meth c H locs cells slots k n (F0 m pc ls st0) (rest.map (mj_v Ω)) (mj_Qc Ω al Φ a) (mj_A Ω)) (hS : va_S (mj_A Ω) s.heap H locs) (hl : mj_has Ω ls nL L)
    (kk : ∀ r M', Φ r M' → mj_Wg Ω al nL p l e R s m args below meth c (cells + k) (slots + n) Q (pc + 3) (L, r.toList ++ rest, M')) : W p l e R s m args below meth c H locs cells slots Q (F0 m pc ls st0) := by
  intro T hT X
  obtain ⟨v, st₀, t, T', L1, h0, X', hL, e1, e2, ⟨⟨r, M', hv, hp, hP, hal, hb, hK, hKc⟩, hz, hk⟩, st⟩ := hr T hT X
  have hv : v = r.map (mj_v Ω) := by simpa using hv
  rw [h0] at hz hk
  have hS' : va_S (mj_A Ω) s.heap T'.heap (locs ++ L1) := ⟨Nat.le_trans hS.1 (by rw [e1]; exact hz), fun q h1 h2 => by rw [e1, hk q (Nat.lt_of_lt_of_le h1 hS.1) h2]; exact hS.2.1 q h1 h2, fun q hq => by
      rcases List.mem_append.mp hq with h | h
      · exact hS.2.2 q h
      · exact hL q h⟩
  obtain ⟨t2, a1, b1⟩ := kk r M' hp T'.heap (locs ++ L1) ls ⟨by rw [e1]; exact hP, by rw [e1]; exact hal, hS'⟩ hl T' rfl X'
  refine ⟨t2, st t2 ?_, b1⟩
  have hs : v.toList ++ rest.map (mj_v Ω) = (r.toList ++ rest).map (mj_v Ω) := by
    rw [hv]
    cases r <;> simp
  show Steps p.tables e below (T'.setTop (F0 m (pc + 3) ls (v.toList ++ rest.map (mj_v Ω)))) t2
  rw [hs]
  exact a1
def mj_np (μ : mj_m) : Option Nat := (parseMethodDescriptor μ.2.2.2.2.2.desc).map (fun d => d.parameters.length)
theorem mj_callV {μ' : mj_m} {d' ci k n : Nat} {pt : mj_PT} {q : vw_C} (hd : d' + 1 ≤ d) (hM : ∀ as M Φ, pt as M Φ → mj_Met Ω l al μ' d' 0 0 as M Φ) (hf : mj_mf μ') (hq : vwCl[ci]? = some q) (hcl : μ'.2.2.2.2.2.cls = q.1) (hi : Cond.instanceMethod μ'.2.2.2.2.2 ∈ mj_GW) (hs : Cond.selects q.1 μ'.2.2.2.2.2 μ'.2.2.2.2.2 ∈ mj_GW)
    (hn : mj_np μ' = some n) (hlk : Cond.methodLink (mj_own.getD μ.1 "") k μ'.2.2.2.2.2 ∈ mj_GW) : mj_Call Ω l al μ d k 0 (n + 1) (mj_rcv ci pt) := by
  intro p e s m args below meth c Q R k0 n0 pc L as rest M Φ F hRR hdg hlen hW hpt hk H locs ls hH hl
  obtain ⟨hx, hb, hml, hown, hts, hr, hlk2, hK, hin, hbs, hKc⟩ := F
  simp only [mj_rcv] at hpt
  split at hpt
  · rename_i a tl
    split at hpt
    · rename_i hdd
      have hsh := of_decide_eq_true hdd
      have he := mj_w_at (Ω := Ω) hsh
      have hG : GoodIn mj_GW (wsV (mj_own.getD μ.1 "") k q.1 μ'.2.2.2.2.2 (mj_ws μ')) := by
        intro w hw
        unfold wsV mj_ws at hw
        simp only [List.cons_append, List.nil_append, List.mem_cons] at hw
        rcases hw with rfl | rfl | rfl | rfl | rfl | hw
        · exact mj_good hlk
        · exact mj_good hi
        · exact mj_good hs
        · rw [← hcl]; exact mj_good hf.2.1
        · exact mj_good hf.1
        · exact mj_good hw
      have cw := cwV (R := R) (s := s) (args := args) (own := mj_own.getD μ.1 "") (C := q.1) (index := k) (y := μ'.2.2.2.2.2) (bytes := μ'.2.2.1) (maxL := μ'.2.2.2.1) (ret := μ'.2.2.2.2.1) (ws := mj_ws μ') (rm := mj_rm d' 0 0) (mc := 0) (ms := 0) n hts hG rfl rfl rfl ⟨hcl, hf.2.2.2.1, hf.2.2.2.2, hn⟩ ⟨by show d' + 1 ≤ R.frames; omega, by show 8 + (μ'.2.2.2.1 + 11) + 64 * d' ≤ R.locals; have := hf.2.2.1; omega⟩
      have run := va_runV (l := l) (e := e) (below := below) (meth := meth) (cells := k0) (slots := n0) (locs := locs) (As := tl.map (mj_v Ω)) (rest := rest.map (mj_v Ω)) (g := F0 m pc ls (((.ref a :: tl).reverse ++ rest).map (mj_v Ω))) (b := mj_q Ω a) (H := H) ⟨hx, hb, hml, hown, hts⟩ (hM _ _ _ hpt) cw
        ⟨mj_blind, va_recv hK hH.1 hq he, fun U hU hWm => ⟨rfl, by rw [hU]; exact hH.1, by rw [hU]; exact hH.2.1, by rw [hU]; exact Nat.le_trans hbs hH.2.2.1, va_K.moved hWm.alike hK, mj_Kc_warm hKc hWm (fun a h1 h2 => by rw [hU]; exact hH.2.2.2.1 a h1 h2)⟩⟩ rfl (by simp at hlen ⊢; omega) hl.1 (by simp [mj_v]) (by
          show 2 * 0 + _ ≤ 8
          have : ((rest.map (mj_v Ω)).map fun v => v.category) = rest.map (fun v => v.category) := by rw [List.map_map]; exact List.map_congr_left (fun v _ => mj_v_cat Ω v)
          rw [this]; omega) hdg ⟨hRR.2.2.1, hRR.2.2.2⟩
      exact mj_after run hH.2.2 hl hk
    · exact hpt.elim
  · exact hpt.elim
theorem mj_callS {μ' : mj_m} {d' k n : Nat} {pt : mj_PT} (hd : d' + 1 ≤ d) (hM : ∀ as M Φ, pt as M Φ → mj_Met Ω l al μ' d' 0 0 as M Φ) (hf : mj_mf μ') (hi : Cond.static μ'.2.2.2.2.2 ∈ mj_GW)
    (hn : mj_np μ' = some n) (hlk : Cond.methodLink (mj_own.getD μ.1 "") k μ'.2.2.2.2.2 ∈ mj_GW) : mj_Call Ω l al μ d k 1 n pt := by
  intro p e s m args below meth c Q R k0 n0 pc L as rest M Φ F hRR hdg hlen hW hpt hk H locs ls hH hl
  obtain ⟨hx, hb, hml, hown, hts, hr, hlk2, hK, hin, hbs, hKc⟩ := F
  have hG : GoodIn mj_GW (va_wsS (mj_own.getD μ.1 "") k μ'.2.2.2.2.2 (mj_ws μ')) := by
    intro w hw
    unfold va_wsS mj_ws at hw
    simp only [List.cons_append, List.nil_append, List.mem_cons] at hw
    rcases hw with rfl | rfl | rfl | rfl | hw
    · exact mj_good hlk
    · exact mj_good hi
    · exact mj_good hf.2.1
    · exact mj_good hf.1
    · exact mj_good hw
  have cw := va_cwS (R := R) (s := s) (args := args) (own := mj_own.getD μ.1 "") (index := k) (y := μ'.2.2.2.2.2) (bytes := μ'.2.2.1) (maxL := μ'.2.2.2.1) (ret := μ'.2.2.2.2.1) (ws := mj_ws μ') (rm := mj_rm d' 0 0) (mc := 0) (ms := 0) n hts hG rfl rfl rfl ⟨hf.2.2.2.1, hf.2.2.2.2, hn⟩ ⟨by show d' + 1 ≤ R.frames; omega, by show 8 + (μ'.2.2.2.1 + 11) + 64 * d' ≤ R.locals; have := hf.2.2.1; omega⟩
  have run := va_runS (l := l) (e := e) (below := below) (meth := meth) (cells := k0) (slots := n0) (locs := locs) (As := as.map (mj_v Ω)) (rest := rest.map (mj_v Ω)) (g := F0 m pc ls ((as.reverse ++ rest).map (mj_v Ω))) (H := H) ⟨hx, hb, hml, hown, hts⟩ (hM _ _ _ hpt) cw
    ⟨mj_blind, fun U hU hWm => ⟨rfl, by rw [hU]; exact hH.1, by rw [hU]; exact hH.2.1, by rw [hU]; exact Nat.le_trans hbs hH.2.2.1, va_K.moved hWm.alike hK, mj_Kc_warm hKc hWm (fun a h1 h2 => by rw [hU]; exact hH.2.2.2.1 a h1 h2)⟩⟩ rfl (by simpa using hlen) hl.1 (by simp) (by
      show 2 * 0 + _ ≤ 8
      have : ((rest.map (mj_v Ω)).map fun v => v.category) = rest.map (fun v => v.category) := by rw [List.map_map]; exact List.map_congr_left (fun v _ => mj_v_cat Ω v)
      rw [this]; omega) hdg ⟨hRR.2.2.1, hRR.2.2.2⟩
  exact mj_after run hH.2.2 hl hk
end MJE
/-! ===== memory behind the constructors; what is asked of a method; its soundness ===== -/
abbrev mk (I : Nat → Nat → Int32) (J : Nat → Nat → Int64) : mj_M := (mS0, mR0, I, J)
def mj_ck (a b : Nat) (M : mj_M) : Prop := a = b ∧ M.1 = mS0 ∧ M.2.1 = mR0
def mj_isk (M : mj_M) : Prop := M.1 = mS0 ∧ M.2.1 = mR0
theorem mj_isk_mk (I : Nat → Nat → Int32) (J : Nat → Nat → Int64) : mj_isk (mk I J) := ⟨rfl, rfl⟩
theorem mj_isk_of {M : mj_M} (h : mj_isk M) : M = mk M.2.2.1 M.2.2.2 := by
  obtain ⟨S, R, I, J⟩ := M
  obtain ⟨h2, h3⟩ := h
  simp only at h2 h3
  subst h2; subst h3
  rfl
/-- a cell of a fleet, of a course -/
def mj_isF (f : Nat) : Prop := f = 15 ∨ f = 30 ∨ f = 39 ∨ f = 48 ∨ f = 57 ∨ f = 66
def mj_isC (c : Nat) : Prop := c = 13 ∨ c = 26 ∨ c = 28
theorem mj_ck_mk (a : Nat) (I : Nat → Nat → Int32) (J : Nat → Nat → Int64) : mj_ck a a (mk I J) := ⟨rfl, rfl, rfl⟩
theorem mj_ck_of {a b : Nat} {M : mj_M} (h : mj_ck a b M) : a = b ∧ M = mk M.2.2.1 M.2.2.2 := by
  obtain ⟨S, R, I, J⟩ := M
  obtain ⟨h1, h2, h3⟩ := h
  simp only at h2 h3
  subst h2; subst h3
  exact ⟨h1, rfl⟩
def mj_Sd (μ : mj_m) (D : Nat) (pt : mj_PT) : Prop := ∀ (Ω : mj_Om) (l : Launch) (d : Nat), D ≤ d → ∀ as M Φ, pt as M Φ → mj_Met Ω l false μ d 0 0 as M Φ
def mj_Cs (μ : mj_m) (D : Nat) (cs : List (Nat × Nat × Nat × mj_PT)) : Prop := ∀ (Ω : mj_Om) (l : Launch) (d : Nat), D ≤ d → ∀ q ∈ cs, mj_Call Ω l false μ d q.1 q.2.1 q.2.2.1 q.2.2.2
def mj_Ok (μ : mj_m) : Prop := plainName μ.2.2.2.2.2.cls = true ∧ mj_own.getD μ.1 "" = μ.2.2.2.2.2.cls ∧ (μ.2.1 = true → μ.2.2.2.2.2.name = "<init>")
theorem mj_Cs0 {μ : mj_m} {D : Nat} : mj_Cs μ D [] := fun _ _ _ _ _ h => absurd h List.not_mem_nil
theorem mj_CsV {μ μ' : mj_m} {D D' ci k n : Nat} {pt : mj_PT} {q : vw_C} {cs : List (Nat × Nat × Nat × mj_PT)} (h : mj_Sd μ' D' pt) (hD : D' + 1 ≤ D) (hf : mj_mf μ') (hq : vwCl[ci]? = some q) (hcl : μ'.2.2.2.2.2.cls = q.1) (hi : Cond.instanceMethod μ'.2.2.2.2.2 ∈ mj_GW) (hs : Cond.selects q.1 μ'.2.2.2.2.2 μ'.2.2.2.2.2 ∈ mj_GW)
    (hn : mj_np μ' = some n) (hlk : Cond.methodLink (mj_own.getD μ.1 "") k μ'.2.2.2.2.2 ∈ mj_GW) (ht : mj_Cs μ D cs) : mj_Cs μ D ((k, 0, n + 1, mj_rcv ci pt) :: cs) := by
  intro Ω l d hd q' hq'
  rcases List.mem_cons.mp hq' with rfl | hq'
  · exact mj_callV (d' := D') (by omega) (h Ω l D' (Nat.le_refl _)) hf hq hcl hi hs hn hlk
  · exact ht Ω l d hd q' hq'
theorem mj_CsS {μ μ' : mj_m} {D D' k n : Nat} {pt : mj_PT} {cs : List (Nat × Nat × Nat × mj_PT)} (h : mj_Sd μ' D' pt) (hD : D' + 1 ≤ D) (hf : mj_mf μ') (hi : Cond.static μ'.2.2.2.2.2 ∈ mj_GW)
    (hn : mj_np μ' = some n) (hlk : Cond.methodLink (mj_own.getD μ.1 "") k μ'.2.2.2.2.2 ∈ mj_GW) (ht : mj_Cs μ D cs) : mj_Cs μ D ((k, 1, n, pt) :: cs) := by
  intro Ω l d hd q' hq'
  rcases List.mem_cons.mp hq' with rfl | hq'
  · exact mj_callS (d' := D') (by omega) (h Ω l D' (Nat.le_refl _)) hf hi hn hlk
  · exact ht Ω l d hd q' hq'
def mj_ptw (μ : mj_m) (P : List (Nat × Instr × Nat)) (cs : List (Nat × Nat × Nat × mj_PT)) (f : Nat) : mj_PT := fun as M Φ => mj_gd (decide ((mj_flat as).length ≤ μ.2.2.2.1)) (mj_wp μ P [] cs Φ (fun _ _ => False) f true 0 (mj_ent μ.2.2.2.1 as, [], M))
theorem mj_ptw_sd {μ : mj_m} {P : List (Nat × Instr × Nat)} {cs : List (Nat × Nat × Nat × mj_PT)} {f D : Nat} (hP : mj_pd μ.2.2.1 P) (ho : mj_Ok μ) (hcs : mj_Cs μ D cs) : mj_Sd μ D (mj_ptw μ P cs f) := by
  intro Ω l d hd as M Φ h
  obtain ⟨h1, h⟩ := mj_gd_iff.mp h
  exact mj_entry ho.1 ho.2.1 ho.2.2 (of_decide_eq_true h1) (mj_wp_ok hP (hcs Ω l d hd) (fun _ _ h => h.elim) f true 0 _ h)
theorem mj_blk {μ : mj_m} {P : List (Nat × Instr × Nat)} {cut : List (Nat × List Bool)} {cs : List (Nat × Nat × Nat × mj_PT)} {D d : Nat} {Ω : mj_Om} {l : Launch} {Φ : Option Value → mj_M → Prop} (hP : mj_pd μ.2.2.1 P) (hcs : mj_Cs μ D cs) (hd : D ≤ d) (f pc : Nat) (S : mj_S) (h : mj_wp μ P cut cs Φ (fun pc S => mj_G Ω l false μ d 0 0 Φ 0 0 pc S) f true pc S) : mj_G Ω l false μ d 0 0 Φ 0 0 pc S := mj_wp_ok hP (hcs Ω l d hd) (fun _ _ h => h) f true pc S h
theorem mj_Met_mono {Ω : mj_Om} {l : Launch} {al : Bool} {μ : mj_m} {d mc ms : Nat} {as : List Value} {M : mj_M} {Φ Φ' : Option Value → mj_M → Prop} (h : ∀ r M', Φ r M' → Φ' r M') (hM : mj_Met Ω l al μ d mc ms as M Φ) : mj_Met Ω l al μ d mc ms as M Φ' := by
  intro p e ha hc hk s m args below hf h1 h2 h3
  obtain ⟨k, o, g1, g2, g3, ⟨⟨r, M', e1, e2, e3⟩, hF⟩, hL⟩ := hM p e ha hc hk s m args below hf h1 h2 h3
  exact ⟨k, o, g1, g2, g3, ⟨⟨r, M', e1, h r M' e2, e3⟩, hF⟩, hL⟩
