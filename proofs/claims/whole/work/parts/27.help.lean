/-! ===== the law's own boat(x, b, w, out): 0 and the answer, or 1 ===== -/
def mj_wsH : List Cond := Cond.codeWith yL_boat cL_boat 5 (some .int) [(0, 10, 13, 13)] :: mj_GW
def pL_boat : List (Nat × Instr × Nat) := [(0, .aload_n 3, 1), (1, .iconst 0, 1), (2, .aload_n 0, 1), (3, .iload_n 1, 1), (4, .iload_n 2, 1), (5, .invokevirtual 7, 3), (8, .i2l, 1), (9, .lastore, 1), (10, .goto 7, 3), (13, .astore 4, 2), (15, .iconst 1, 1), (16, .ireturn, 1), (17, .iconst 0, 1), (18, .ireturn, 1)]
theorem dL_boat : (pL_boat.all (fun e => decide (decode cL_boat e.1 = .ok (e.2.1, e.2.2)))) = true := by decide +kernel
set_option maxRecDepth 100000 in
theorem mj_helpW : mj_gw (Cond.methodLink RL 7 yX11_boat) = true ∧ mj_gw (Cond.codeWith yL_boat cL_boat 5 (some .int) [(0, 10, 13, 13)]) = true ∧ mj_gw (Cond.classLink RL 13 mj_NSE) = true ∧ (decide (Cond.castable mj_NSE mj_NSE ∈ lw_tbl)) = true := by decide +kernel
abbrev mj_hL (b w : Int32) : List (Option Value) := [some (.ref 0), some (.int b), some (.int w), some (.ref 120), none]
theorem mj_help_in {Ω : mj_Om} {l : Launch} {mc ms : Nat} {Qc : Array Value → State → Outcome → State → Prop} {I : Nat → Nat → Int32} {J : Nat → Nat → Int64} {b w : Int32}
    (body : ∀ (p : Program) (e : Env) (s : State) (m : MethodId) (args : Array Value) (below : List Frame) (meth : Method) (c : Code), mj_F Ω p s m args meth c 13 false cL_boat 5 (some .int) → c.exceptionTable.toList = tableOf [(0, 10, 13, 13)] → mj_Wg Ω false 5 p l e (mj_rm 12 mc ms) s m args below meth c 0 0 (vx_MQ below Qc (fun _ _ _ => False) args s mc ms (mj_A Ω)) 0 (mj_hL b w, [], mk I J)) :
    vx_Met l yL_boat mj_wsH (mj_rm 12 mc ms) (mj_Pc Ω false [.ref 0, .int b, .int w, .ref 120] (mk I J)) Qc (fun _ _ _ => False) mc ms (mj_A Ω) := by
  refine vx_ofWH (cc := cL_boat) (maxL := 5) (ret := some .int) (hh := [(0, 10, 13, 13)]) (by decide) rfl ?_
  intro p e s m args below meth c s₁ B hml hv
  obtain ⟨rfl, hP, hal, hbs, hK, hKc⟩ := hv
  have hts := atoms_spec (ws := mj_wsH) B.pre
  have F : mj_F Ω p s m ([Value.ref 0, .int b, .int w, .ref 120].map (mj_v Ω)).toArray meth c 13 false cL_boat 5 (some .int) :=
    ⟨B.exec, B.bytes, hml, findClass_of_methodNamed B.named, fun w hw => hts w (List.mem_cons_of_mem _ hw), B.returns, B.notSynchronized, hK, fun q => (by cases q), hbs, hKc⟩
  have hle : (lg_sl ([Value.ref 0, .int b, .int w, .ref 120].map (mj_v Ω))).length ≤ 5 := Nat.le_of_ble_eq_true rfl
  have hls := lv_entry ([Value.ref 0, .int b, .int w, .ref 120].map (mj_v Ω)) hle
  rw [lg_entry_eq]
  refine body p e s m _ below meth c F (vx_table (x := yL_boat) B (hts _ List.mem_cons_self)) s.heap [] _ ⟨hP, hal, va_S.rf⟩ ⟨hls.1, hls.2.1, fun i v hiv => ?_⟩
  have hil : i < 4 := by
    have hlt : i < 5 := (List.getElem?_eq_some_iff.mp hiv).1
    rcases Nat.lt_or_ge i 4 with q | q
    · exact q
    · rw [show i = 4 by omega] at hiv
      cases hiv
  have h2 : (mj_flat [Value.ref 0, .int b, .int w, .ref 120])[i]? = some (some v) := by
    match i, hil, hiv with
    | 0, _, h => exact h
    | 1, _, h => exact h
    | 2, _, h => exact h
    | 3, _, h => exact h
  have := hls.2.2 _ (mj_flat_in (Ω := Ω) _ 0 i v h2)
  simpa using this
set_option maxHeartbeats 4000000 in
/-- no such ones: it answers 1 -/
theorem mj_helpX (Ω : mj_Om) (l : Launch) (hl : l.stackTraces = false) (I : Nat → Nat → Int32) (J : Nat → Nat → Int64) (b w : Int32) (hbad : mj_badB I b w) : vx_Met l yL_boat mj_wsH (mj_rm 12 1 6) (mj_Pc Ω false [.ref 0, .int b, .int w, .ref 120] (mk I J)) (mj_Qc Ω false (fun r M' => r = some (.int 1) ∧ M' = mk I J)) (fun _ _ _ => False) 1 6 (mj_A Ω) := by
  refine mj_help_in (fun p e s m args below meth c F hexc => ?_)
  refine mj_run_ok (pe := 5) (K := fun S' => S' = ((mj_hL b w, [.int w, .int b, .ref 0, .int 0, .ref 120], mk I J) : mj_S)) F [.aload_n 3, .iconst 0, .aload_n 0, .iload_n 1, .iload_n 2] ⟨mj_ade dL_boat 0 rfl, mj_ade dL_boat 1 rfl, mj_ade dL_boat 2 rfl, mj_ade dL_boat 3 rfl, mj_ade dL_boat 4 rfl, rfl⟩ (show ((mj_hL b w, [.int w, .int b, .ref 0, .int 0, .ref 120], mk I J) : mj_S) = (mj_hL b w, [.int w, .int b, .ref 0, .int 0, .ref 120], mk I J) from rfl) (fun S' h => ?_)
  subst h
  intro H locs ls hH hls
  obtain ⟨hx, hb, hml, hown, hts, hr, hlk2, hK, hin, hbs, hKc⟩ := F
  have hG : GoodIn mj_GW (wsV RL 7 RX11 yX11_boat (mj_ws mX11_boat)) := by
    intro w hw
    unfold wsV mj_ws at hw
    simp only [List.cons_append, List.nil_append, List.mem_cons] at hw
    rcases hw with rfl | rfl | rfl | rfl | rfl | hw
    · exact mj_good (mj_gw_in mj_helpW.1)
    · exact mj_good iX11_boat
    · exact mj_good vX11_boat
    · exact mj_good fX11_boat.2.1
    · exact mj_good fX11_boat.1
    · exact mj_good hw
  have hsh : mj_sh (mk I J) 0 = some (11 + 4, 0) := rfl
  have he := mj_w_at (Ω := Ω) hsh
  have cw := cwV (R := mj_rm 12 1 6) (s := s) (args := args) (own := RL) (C := RX11) (index := 7) (y := yX11_boat) (bytes := cX11_boat) (maxL := 3) (ret := some .int) (ws := mj_ws mX11_boat) (rm := mj_rm 10 1 6) (mc := 1) (ms := 6) 2 hts hG rfl rfl rfl ⟨rfl, by decide, by decide, by decide +kernel⟩ ⟨by decide, by decide⟩
  have run := vx_runV (l := l) (e := e) (below := below) (meth := meth) (cells := 0) (slots := 0) (locs := locs) (As := [.int b, .int w]) (rest := [.int 0, .ref (mj_q Ω 120)]) (g := F0 m 5 ls (([.int w, .int b, .ref 0, .int 0, .ref 120] : List Value).map (mj_v Ω))) (b := mj_q Ω 0) (H := H) ⟨hx, hb, hml, hown, hts⟩ (mj_boatX (va_Qi (fun (_ : Int32) (_ : Unit) => False) (fun _ _ => True) (mj_A Ω)) Ω l hl I J b w hbad) cw
    ⟨mj_blind, va_recv hK hH.1 rfl he, fun U hU hWm => ⟨rfl, by rw [hU]; exact hH.1, by rw [hU]; exact hH.2.1, by rw [hU]; exact Nat.le_trans hbs hH.2.2.1, va_K.moved hWm.alike hK, mj_Kc_warm hKc hWm (fun a h1 h2 => by rw [hU]; exact hH.2.2.2.1 a h1 h2)⟩⟩ rfl rfl hls.1 rfl (by show 2 * 0 + 2 ≤ 8; omega) (mj_ade dL_boat 5 rfl) ⟨Nat.le_refl _, Nat.le_refl _⟩
  refine vx_calli run hH.2.2 (fun q _ h => h) (fun q h => h) (fun q _ h => h) (fun E ce q9 u t H1 locs1 ht hvm _ hB hz hk hS hce hcv hcl => ?_) (fun r u t H1 locs1 _ _ hf => hf.elim)
  obtain ⟨rfl, hP1⟩ := hB
  rw [ht] at hP1
  refine vx_catch (own := RL) (name := mj_NSE) hown [] ⟨0, 10, 13, 13⟩ [] (by rw [hexc]; rfl) (fun z hz => (by cases hz)) (by decide) (by decide) (hts _ (mj_gw_in mj_helpW.2.2.1)) (va_Nw.use rfl (hKc.1 _ (List.mem_filter.mpr ⟨of_decide_eq_true mj_helpW.2.2.2, rfl⟩))) hce hcv hcl ?_
  refine lv_astore hx hb (mj_ade dL_boat 9 rfl) (mj_l_of hls) (by decide) rfl (fun ls' hl' => ?_)
  refine lv_iconst (v := 1) hx hb (mj_ade dL_boat 10 rfl) (by decide) ?_
  refine vx_ret (W.widen (k := 1) (n := 6) (Nat.le_refl _) (Nat.le_refl _) ?_)
  have hH1 : mj_H Ω false (mk I J) s H1 locs1 := ⟨hP1, fun h => (by cases h), hS⟩
  exact W.iret hx hb hr (mj_leave (Φ := fun r M' => r = some (.int 1) ∧ M' = mk I J) (as := args) hbs hK hKc hH1 (some (.int 1)) ⟨rfl, rfl⟩) hS.2.2 (mj_ade dL_boat 11 rfl) hlk2
set_option maxHeartbeats 4000000 in
/-- such ones: 0, and the answer in out -/
theorem mj_helpV (Ω : mj_Om) (l : Launch) (I : Nat → Nat → Int32) (J : Nat → Nat → Int64) (b w v : Int32) (hM : mj_Met Ω l false mX11_boat 10 0 0 [.ref 0, .int b, .int w] (mk I J) (fun r M' => r = some (.int v) ∧ M' = mk I J)) : vx_Met l yL_boat mj_wsH (mj_rm 12 1 6) (mj_Pc Ω false [.ref 0, .int b, .int w, .ref 120] (mk I J)) (mj_Qc Ω false (fun r M' => r = some (.int 0) ∧ M' = mk I (mj_ul J 120 0 v.toInt64))) (fun _ _ _ => False) 1 6 (mj_A Ω) := by
  refine mj_help_in (fun p e s m args below meth c F hexc => ?_)
  refine mj_run_ok (pe := 5) (K := fun S' => S' = ((mj_hL b w, [.int w, .int b, .ref 0, .int 0, .ref 120], mk I J) : mj_S)) F [.aload_n 3, .iconst 0, .aload_n 0, .iload_n 1, .iload_n 2] ⟨mj_ade dL_boat 0 rfl, mj_ade dL_boat 1 rfl, mj_ade dL_boat 2 rfl, mj_ade dL_boat 3 rfl, mj_ade dL_boat 4 rfl, rfl⟩ (show ((mj_hL b w, [.int w, .int b, .ref 0, .int 0, .ref 120], mk I J) : mj_S) = (mj_hL b w, [.int w, .int b, .ref 0, .int 0, .ref 120], mk I J) from rfl) (fun S' h => ?_)
  subst h
  have hc : mj_Call Ω l false (13, false, cL_boat, 5, some .int, yL_boat) 11 7 0 (2 + 1) (mj_rcv 11 (fun as M Φ => as = [.ref 0, .int b, .int w] ∧ M = mk I J ∧ Φ (some (.int v)) (mk I J))) := mj_callV (d' := 10) (q := (RX11, TX11, 18)) (Nat.le_refl _) (fun as M Φ h => by
    obtain ⟨rfl, rfl, h⟩ := h
    exact mj_Met_mono (fun r M' h' => by obtain ⟨rfl, rfl⟩ := h'; exact h) hM) fX11_boat rfl rfl iX11_boat vX11_boat (by decide +kernel) (mj_gw_in mj_helpW.1)
  refine hc p e s m args below meth c _ (mj_rm 12 1 6) 0 0 5 _ [.ref 0, .int b, .int w] [.int 0, .ref 120] (mk I J) (fun r M' => r = some (.int v) ∧ M' = mk I J) F ⟨by decide, by decide, by decide, by decide⟩ (mj_ade dL_boat 5 rfl) rfl (by decide) (show (([.ref 0, .int b, .int w] : List Value) = [.ref 0, .int b, .int w] ∧ mk I J = mk I J ∧ (some (Value.int v) = some (.int v) ∧ mk I J = mk I J)) from ⟨rfl, rfl, rfl, rfl⟩) (fun r M' h => ?_)
  obtain ⟨rfl, rfl⟩ := h
  refine mj_run_ok (pe := 10) (K := fun S' => S' = ((mj_hL b w, [], mk I (mj_ul J 120 0 v.toInt64)) : mj_S)) F [.i2l, .lastore] ⟨mj_ade dL_boat 6 rfl, mj_ade dL_boat 7 rfl, rfl⟩ (show ((mj_hL b w, [], mk I (mj_ul J 120 0 v.toInt64)) : mj_S) = (mj_hL b w, [], mk I (mj_ul J 120 0 v.toInt64)) from rfl) (fun S' h => ?_)
  subst h
  intro H locs ls hH hls
  obtain ⟨hx, hb, hml, hown, hts, hr, hlk2, hK, hin, hbs, hKc⟩ := F
  refine lv_goto (tgt := 17) hx hb (mj_ade dL_boat 8 rfl) rfl ?_
  refine lv_iconst (v := 0) hx hb (mj_ade dL_boat 12 rfl) (by decide) ?_
  refine vx_ret (W.widen (k := 1) (n := 6) (by omega) (by omega) ?_)
  exact W.iret hx hb hr (mj_leave (Φ := fun r M' => r = some (.int 0) ∧ M' = mk I (mj_ul J 120 0 v.toInt64)) (as := args) hbs hK hKc hH (some (.int 0)) ⟨rfl, rfl⟩) hH.2.2.2.2 (mj_ade dL_boat 13 rfl) hlk2
