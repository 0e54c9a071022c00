/-! ===== the law calls its own boat ===== -/
set_option maxHeartbeats 4000000 in
theorem lw_help {Ω : mj_Om} {p : Program} {l : Launch} {e : Env} {s : State} {m : MethodId} {below : List Frame} {meth : Method} {c : Code} {b Ls k n : Nat} {xs : Nat → Int32} {L : List (Option Value)} (F : lwF Ω p s m meth c b Ls xs) {bb ww r : Int32} {I : Nat → Nat → Int32} {J J' : Nat → Nat → Int64} (hM : vx_Met l yL_boat mj_wsH (mj_rm 12 1 6) (mj_Pc Ω false [.ref 0, .int bb, .int ww, .ref 120] (mk I J)) (mj_Qc Ω false (fun r' M' => r' = some (.int r) ∧ M' = mk I J')) (fun _ _ _ => False) 1 6 (mj_A Ω)) (hk : lw_kn (k + 1) (n + 6)) (h : lwG Ω p l e s m b below meth c (k + 1) (n + 6) 381 (L, [.int r], mk I J')) : lwG Ω p l e s m b below meth c k n 378 (L, [.ref 120, .int ww, .int bb, .ref 0], mk I J) := by
  intro H locs ls hH hls
  obtain ⟨hx, hb, hml, hown, hts, hr, hlk2, hK, hin, hbs, hKc⟩ := F.1
  have hG : GoodIn mj_GW (va_wsS RL 38 yL_boat mj_wsH) := by
    intro w hw
    simp only [va_wsS, mj_wsH, List.cons_append, List.nil_append, List.mem_cons] at hw
    rcases hw with rfl | rfl | rfl | rfl | hw
    · first | exact mj_good l13_38 | exact mj_good (mj_gw_in (by decide +kernel))
    · first | exact mj_good l13_38 | exact mj_good (mj_gw_in (by decide +kernel))
    · first | exact mj_good l13_38 | exact mj_good (mj_gw_in (by decide +kernel))
    · exact mj_good (mj_gw_in mj_helpW.2.1)
    · exact mj_good hw
  have cw := vx_cwSW (R := room_1) (s := s) (args := #[Value.ref b]) (own := RL) (index := 38) (y := yL_boat) (bytes := cL_boat) (maxL := 5) (ret := some .int) (hh := [(0, 10, 13, 13)]) (ws := mj_wsH) (rm := mj_rm 12 1 6) (mc := 1) (ms := 6) 4 hts hG rfl rfl rfl ⟨by decide, by decide, by decide +kernel⟩ ⟨by decide, by decide⟩
  have run := vx_runSX (l := l) (e := e) (below := below) (meth := meth) (cells := k) (slots := n) (locs := locs) (As := [.ref (mj_q Ω 0), .int bb, .int ww, .ref (mj_q Ω 120)]) (rest := []) (g := F0 m 378 ls (([.ref 120, .int ww, .int bb, .ref 0] : List Value).map (mj_v Ω))) (H := H) ⟨hx, hb, hml, hown, hts⟩ hM cw
    ⟨mj_blind, fun U hU hWm => ⟨rfl, by rw [hU]; exact hH.1, by rw [hU]; exact hH.2.1, by rw [hU]; exact Nat.le_trans hbs hH.2.2.1, va_K.moved hWm.alike hK, mj_Kc_warm hKc hWm (fun a h1 h2 => by rw [hU]; exact hH.2.2.2.1 a h1 h2)⟩⟩ rfl rfl hls.1 rfl (by show 2 * 0 + 0 ≤ 8; omega) dl_378 ⟨hk.1, hk.2⟩
  intro T hT X
  rcases run T hT X with ⟨v, st₀, t, T', L9, h0, X', hL, e1, e2, hq, st⟩ | ⟨q, st₀, t, T', L9, E, ce, h0, X', hL, e1, e2, hf, -⟩
  · obtain ⟨⟨r', M', hv, ⟨rfl, rfl⟩, hSt⟩, hF⟩ := hq
    cases hv
    obtain ⟨k1, k2, k3⟩ := vx_keep h0 e1 hH.2.2 (fun q _ h => h) (fun q h => h) hL hF
    obtain ⟨t2, a1, b1⟩ := h T'.heap (locs ++ L9) ls ⟨by rw [e1]; exact hSt.1, fun h => (by cases h), k3⟩ hls T' rfl X'
    exact ⟨t2, st t2 a1, b1⟩
  · exact hf.elim
