/-! ===== the law: its cases (by program, wip/whole/p108.py) ===== -/
theorem mj_shC (I : Nat → Nat → Int32) (J : Nat → Nat → Int64) : mj_sh (mk I J) 0 = some (15, 0) := rfl
theorem mj_shM (I : Nat → Nat → Int32) (J : Nat → Nat → Int64) : mj_sh (mk I J) 91 = some (16, 0) := rfl
def lw_kn (k n : Nat) : Prop := k ≤ 601024 ∧ n ≤ 7293034
section LAW2
variable {Ω : mj_Om} {p : Program} {l : Launch} {e : Env} {s : State} {m : MethodId} {below : List Frame} {meth : Method} {c : Code} {b Ls k n pc : Nat} {xs : Nat → Int32} {L : List (Option Value)} {rest : List Value} {I : Nat → Nat → Int32} {J : Nat → Nat → Int64}
theorem lw_callC (F : lwF Ω p s m meth c b Ls xs) {mc : mj_m} {k' nn : Nat} {as : List Value} {Φ : Option Value → mj_M → Prop} (hM : mj_Met Ω l false mc 60 0 0 (.ref 0 :: as) (mk I J) Φ) (hf : mj_mf mc) (hcl : mc.2.2.2.2.2.cls = RX11) (hi : Cond.instanceMethod mc.2.2.2.2.2 ∈ mj_GW) (hs : Cond.selects RX11 mc.2.2.2.2.2 mc.2.2.2.2.2 ∈ mj_GW) (hn : mj_np mc = some nn) (hlk : Cond.methodLink (mj_own.getD 13 "") k' mc.2.2.2.2.2 ∈ mj_GW) (hlen : (Value.ref 0 :: as).length = nn + 1) (hdg : decode code pc = .ok (mj_inv 0 k', 3)) (hk : lw_kn k n) (hr : (rest.map (fun v => v.category)).sum ≤ 8) (h : ∀ r M', Φ r M' → lwG Ω p l e s m b below meth c k n (pc + 3) (L, r.toList ++ rest, M')) : lwG Ω p l e s m b below meth c k n pc (L, (Value.ref 0 :: as).reverse ++ rest, mk I J) := by
  have hc : mj_Call Ω l false mL_law 61 k' 0 (nn + 1) (mj_rcv 11 (fun as' M Φ' => as' = .ref 0 :: as ∧ M = mk I J ∧ ∀ r M', Φ r M' → Φ' r M')) := mj_callV (d' := 60) (q := (RX11, TX11, 18)) (Nat.le_refl _) (fun as' M Φ' q => by
    obtain ⟨rfl, rfl, q⟩ := q
    exact mj_Met_mono (fun r M' h' => q r M' h') hM) hf rfl hcl hi hs hn hlk
  exact hc p e s m _ below meth c _ room_1 k n pc L (.ref 0 :: as) rest (mk I J) Φ F.1 ⟨by decide, by decide, hk.1, hk.2⟩ hdg hlen hr (show (Value.ref 0 :: as = .ref 0 :: as ∧ mk I J = mk I J ∧ ∀ r M', Φ r M' → Φ r M') from ⟨rfl, rfl, fun _ _ q => q⟩) h
theorem lw_callM (F : lwF Ω p s m meth c b Ls xs) {mc : mj_m} {k' nn : Nat} {as : List Value} {Φ : Option Value → mj_M → Prop} (hM : mj_Met Ω l false mc 60 0 0 (.ref 91 :: as) (mk I J) Φ) (hf : mj_mf mc) (hcl : mc.2.2.2.2.2.cls = RX12) (hi : Cond.instanceMethod mc.2.2.2.2.2 ∈ mj_GW) (hs : Cond.selects RX12 mc.2.2.2.2.2 mc.2.2.2.2.2 ∈ mj_GW) (hn : mj_np mc = some nn) (hlk : Cond.methodLink (mj_own.getD 13 "") k' mc.2.2.2.2.2 ∈ mj_GW) (hlen : (Value.ref 91 :: as).length = nn + 1) (hdg : decode code pc = .ok (mj_inv 0 k', 3)) (hk : lw_kn k n) (hr : (rest.map (fun v => v.category)).sum ≤ 8) (h : ∀ r M', Φ r M' → lwG Ω p l e s m b below meth c k n (pc + 3) (L, r.toList ++ rest, M')) : lwG Ω p l e s m b below meth c k n pc (L, (Value.ref 91 :: as).reverse ++ rest, mk I J) := by
  have hc : mj_Call Ω l false mL_law 61 k' 0 (nn + 1) (mj_rcv 12 (fun as' M Φ' => as' = .ref 91 :: as ∧ M = mk I J ∧ ∀ r M', Φ r M' → Φ' r M')) := mj_callV (d' := 60) (q := (RX12, TX12, 45)) (Nat.le_refl _) (fun as' M Φ' q => by
    obtain ⟨rfl, rfl, q⟩ := q
    exact mj_Met_mono (fun r M' h' => q r M' h') hM) hf rfl hcl hi hs hn hlk
  exact hc p e s m _ below meth c _ room_1 k n pc L (.ref 91 :: as) rest (mk I J) Φ F.1 ⟨by decide, by decide, hk.1, hk.2⟩ hdg hlen hr (show (Value.ref 91 :: as = .ref 91 :: as ∧ mk I J = mk I J ∧ ∀ r M', Φ r M' → Φ r M') from ⟨rfl, rfl, fun _ _ q => q⟩) h
theorem lw_eq (F : lwF Ω p s m meth c b Ls xs) {v : Int32} {off : Int} {t : Nat} {st : List Value} {M : mj_M} (hdg : decode code pc = .ok (.if_icmp .eq off, 3)) (ht : (pc : Int) + off = (t : Int)) (h : lwG Ω p l e s m b below meth c k n t (L, st, M)) : lwG Ω p l e s m b below meth c k n pc (L, .int v :: .int v :: st, M) := by
  intro H locs ls hH hl
  exact lv_icmp_eq F.1.1 F.1.2.1 hdg ht (fun _ => h H locs ls hH hl) (fun q => absurd rfl q)
end LAW2
theorem lw_c0 {Ω : mj_Om} {p : Program} {l : Launch} {e : Env} {s : State} {m : MethodId} {below : List Frame} {meth : Method} {c : Code} {b Ls k n t : Nat} {xs : Nat → Int32} {x5 x6 : Option Value} {I : Nat → Nat → Int32} {J : Nat → Nat → Int64} (F : lwF Ω p s m meth c b Ls xs) (ht : 6 * t + 6 ≤ Ls) (hk : lw_kn k n) (hR : Rel I) (hE : ∀ I2 J2, Rel I2 → lwG Ω p l e s m b below meth c k n 1443 (lwL t x5 x6, [], mk I2 J2)) : lwG Ω p l e s m b below meth c k n 216 (lwL t x5 x6, [], mk I J) := by
  refine lw_run F [.aload_n 1] (pe := 217) (S' := (lwL t x5 x6, [.ref 0], mk I J)) ⟨dl_216, rfl⟩ rfl ?_
  refine lw_arg F (j := 1) (by decide) ht dl_217 dl_218 dl_220 dl_221 dl_222 (Nat.le_of_ble_eq_true rfl) ?_
  refine lw_arg F (j := 2) (by decide) ht dl_223 dl_224 dl_226 dl_227 dl_228 (Nat.le_of_ble_eq_true rfl) ?_
  refine lw_arg F (j := 3) (by decide) ht dl_229 dl_230 dl_232 dl_233 dl_234 (Nat.le_of_ble_eq_true rfl) ?_
  refine lw_arg F (j := 4) (by decide) ht dl_235 dl_236 dl_238 dl_239 dl_240 (Nat.le_of_ble_eq_true rfl) ?_
  refine lw_arg F (j := 5) (by decide) ht dl_241 dl_242 dl_244 dl_245 dl_246 (Nat.le_of_ble_eq_true rfl) ?_
  refine lw_callC F (nn := 5) (as := [.int (xs (6 * t + 1)), .int (xs (6 * t + 2)), .int (xs (6 * t + 3)), .int (xs (6 * t + 4)), .int (xs (6 * t + 5))]) (rest := []) (two_feed (xs (6 * t + 1)) (xs (6 * t + 2)) (xs (6 * t + 3)) (xs (6 * t + 4)) (xs (6 * t + 5)) hR) fX11_feed rfl iX11_feed vX11_feed (by decide +kernel) l13_19 rfl dl_247 hk (Nat.le_of_ble_eq_true rfl) (fun r M' hr => ?_)
  obtain ⟨v, I1, J1, rfl, rfl, hm⟩ := hr
  refine lw_run F [.aload_n 2] (pe := 251) (S' := (lwL t x5 x6, [.ref 91, .int v], mk I1 J1)) ⟨dl_250, rfl⟩ rfl ?_
  refine lw_arg F (j := 1) (by decide) ht dl_251 dl_252 dl_254 dl_255 dl_256 (Nat.le_of_ble_eq_true rfl) ?_
  refine lw_arg F (j := 2) (by decide) ht dl_257 dl_258 dl_260 dl_261 dl_262 (Nat.le_of_ble_eq_true rfl) ?_
  refine lw_arg F (j := 3) (by decide) ht dl_263 dl_264 dl_266 dl_267 dl_268 (Nat.le_of_ble_eq_true rfl) ?_
  refine lw_arg F (j := 4) (by decide) ht dl_269 dl_270 dl_272 dl_273 dl_274 (Nat.le_of_ble_eq_true rfl) ?_
  refine lw_arg F (j := 5) (by decide) ht dl_275 dl_276 dl_278 dl_279 dl_280 (Nat.le_of_ble_eq_true rfl) ?_
  refine lw_callM F (nn := 5) (as := [.int (xs (6 * t + 1)), .int (xs (6 * t + 2)), .int (xs (6 * t + 3)), .int (xs (6 * t + 4)), .int (xs (6 * t + 5))]) (rest := [.int v]) hm fX12_feed rfl iX12_feed vX12_feed (by decide +kernel) l13_23 rfl dl_281 hk (Nat.le_of_ble_eq_true rfl) (fun r M' hr => ?_)
  obtain ⟨I2, J2, rfl, rfl, h2⟩ := hr
  exact lw_eq F dl_284 rfl (hE I2 J2 h2)
theorem lw_c1 {Ω : mj_Om} {p : Program} {l : Launch} {e : Env} {s : State} {m : MethodId} {below : List Frame} {meth : Method} {c : Code} {b Ls k n t : Nat} {xs : Nat → Int32} {x5 x6 : Option Value} {I : Nat → Nat → Int32} {J : Nat → Nat → Int64} (F : lwF Ω p s m meth c b Ls xs) (ht : 6 * t + 6 ≤ Ls) (hk : lw_kn k n) (hR : Rel I) (hE : ∀ I2 J2, Rel I2 → lwG Ω p l e s m b below meth c k n 1443 (lwL t x5 x6, [], mk I2 J2)) : lwG Ω p l e s m b below meth c k n 289 (lwL t x5 x6, [], mk I J) := by
  refine lw_run F [.aload_n 1] (pe := 290) (S' := (lwL t x5 x6, [.ref 0], mk I J)) ⟨dl_289, rfl⟩ rfl ?_
  refine lw_arg F (j := 1) (by decide) ht dl_290 dl_291 dl_293 dl_294 dl_295 (Nat.le_of_ble_eq_true rfl) ?_
  refine lw_callC F (nn := 1) (as := [.int (xs (6 * t + 1))]) (rest := []) (two_end (xs (6 * t + 1)) hR) fX11_end rfl iX11_end vX11_end (by decide +kernel) l13_24 rfl dl_296 hk (Nat.le_of_ble_eq_true rfl) (fun r M' hr => ?_)
  obtain ⟨v, I1, J1, rfl, rfl, hm⟩ := hr
  refine lw_run F [.aload_n 2] (pe := 300) (S' := (lwL t x5 x6, [.ref 91, .int v], mk I1 J1)) ⟨dl_299, rfl⟩ rfl ?_
  refine lw_arg F (j := 1) (by decide) ht dl_300 dl_301 dl_303 dl_304 dl_305 (Nat.le_of_ble_eq_true rfl) ?_
  refine lw_callM F (nn := 1) (as := [.int (xs (6 * t + 1))]) (rest := [.int v]) hm fX12_end rfl iX12_end vX12_end (by decide +kernel) l13_28 rfl dl_306 hk (Nat.le_of_ble_eq_true rfl) (fun r M' hr => ?_)
  obtain ⟨I2, J2, rfl, rfl, h2⟩ := hr
  exact lw_eq F dl_309 rfl (hE I2 J2 h2)
theorem lw_c2 {Ω : mj_Om} {p : Program} {l : Launch} {e : Env} {s : State} {m : MethodId} {below : List Frame} {meth : Method} {c : Code} {b Ls k n t : Nat} {xs : Nat → Int32} {x5 x6 : Option Value} {I : Nat → Nat → Int32} {J : Nat → Nat → Int64} (F : lwF Ω p s m meth c b Ls xs) (ht : 6 * t + 6 ≤ Ls) (hk : lw_kn k n) (hR : Rel I) (hE : ∀ I2 J2, Rel I2 → lwG Ω p l e s m b below meth c k n 1443 (lwL t x5 x6, [], mk I2 J2)) : lwG Ω p l e s m b below meth c k n 314 (lwL t x5 x6, [], mk I J) := by
  refine lw_run F [.aload_n 1] (pe := 315) (S' := (lwL t x5 x6, [.ref 0], mk I J)) ⟨dl_314, rfl⟩ rfl ?_
  refine lw_arg F (j := 1) (by decide) ht dl_315 dl_316 dl_318 dl_319 dl_320 (Nat.le_of_ble_eq_true rfl) ?_
  refine lw_callC F (nn := 1) (as := [.int (xs (6 * t + 1))]) (rest := []) (two_fault (xs (6 * t + 1)) hR) fX11_fault rfl iX11_fault vX11_fault (by decide +kernel) l13_29 rfl dl_321 hk (Nat.le_of_ble_eq_true rfl) (fun r M' hr => ?_)
  obtain ⟨v, I1, J1, rfl, rfl, hm⟩ := hr
  refine lw_run F [.aload_n 2] (pe := 325) (S' := (lwL t x5 x6, [.ref 91, .int v], mk I1 J1)) ⟨dl_324, rfl⟩ rfl ?_
  refine lw_arg F (j := 1) (by decide) ht dl_325 dl_326 dl_328 dl_329 dl_330 (Nat.le_of_ble_eq_true rfl) ?_
  refine lw_callM F (nn := 1) (as := [.int (xs (6 * t + 1))]) (rest := [.int v]) hm fX12_fault rfl iX12_fault vX12_fault (by decide +kernel) l13_33 rfl dl_331 hk (Nat.le_of_ble_eq_true rfl) (fun r M' hr => ?_)
  obtain ⟨I2, J2, rfl, rfl, h2⟩ := hr
  exact lw_eq F dl_334 rfl (hE I2 J2 h2)
theorem lw_c3 {Ω : mj_Om} {p : Program} {l : Launch} {e : Env} {s : State} {m : MethodId} {below : List Frame} {meth : Method} {c : Code} {b Ls k n t : Nat} {xs : Nat → Int32} {x5 x6 : Option Value} {I : Nat → Nat → Int32} {J : Nat → Nat → Int64} (F : lwF Ω p s m meth c b Ls xs) (ht : 6 * t + 6 ≤ Ls) (hk : lw_kn k n) (hR : Rel I) (hE : ∀ I2 J2, Rel I2 → lwG Ω p l e s m b below meth c k n 1443 (lwL t x5 x6, [], mk I2 J2)) : lwG Ω p l e s m b below meth c k n 339 (lwL t x5 x6, [], mk I J) := by
  refine lw_run F [.aload_n 1] (pe := 340) (S' := (lwL t x5 x6, [.ref 0], mk I J)) ⟨dl_339, rfl⟩ rfl ?_
  refine lw_arg F (j := 1) (by decide) ht dl_340 dl_341 dl_343 dl_344 dl_345 (Nat.le_of_ble_eq_true rfl) ?_
  refine lw_callC F (nn := 1) (as := [.int (xs (6 * t + 1))]) (rest := []) (two_text (xs (6 * t + 1)) hR) fX11_text rfl iX11_text vX11_text (by decide +kernel) l13_34 rfl dl_346 hk (Nat.le_of_ble_eq_true rfl) (fun r M' hr => ?_)
  obtain ⟨v, I1, J1, rfl, rfl, hm⟩ := hr
  refine lw_run F [.aload_n 2] (pe := 350) (S' := (lwL t x5 x6, [.ref 91, .int v], mk I1 J1)) ⟨dl_349, rfl⟩ rfl ?_
  refine lw_arg F (j := 1) (by decide) ht dl_350 dl_351 dl_353 dl_354 dl_355 (Nat.le_of_ble_eq_true rfl) ?_
  refine lw_callM F (nn := 1) (as := [.int (xs (6 * t + 1))]) (rest := [.int v]) hm fX12_text rfl iX12_text vX12_text (by decide +kernel) l13_37 rfl dl_356 hk (Nat.le_of_ble_eq_true rfl) (fun r M' hr => ?_)
  obtain ⟨I2, J2, rfl, rfl, h2⟩ := hr
  exact lw_eq F dl_359 rfl (hE I2 J2 h2)
theorem lw_c5 {Ω : mj_Om} {p : Program} {l : Launch} {e : Env} {s : State} {m : MethodId} {below : List Frame} {meth : Method} {c : Code} {b Ls k n t : Nat} {xs : Nat → Int32} {x5 x6 : Option Value} {I : Nat → Nat → Int32} {J : Nat → Nat → Int64} (F : lwF Ω p s m meth c b Ls xs) (ht : 6 * t + 6 ≤ Ls) (hk : lw_kn k n) (hR : Rel I) (hE : ∀ I2 J2, Rel I2 → lwG Ω p l e s m b below meth c k n 1443 (lwL t x5 x6, [], mk I2 J2)) : lwG Ω p l e s m b below meth c k n 432 (lwL t x5 x6, [], mk I J) := by
  refine lw_run F [.aload_n 1] (pe := 433) (S' := (lwL t x5 x6, [.ref 0], mk I J)) ⟨dl_432, rfl⟩ rfl ?_
  refine lw_arg F (j := 1) (by decide) ht dl_433 dl_434 dl_436 dl_437 dl_438 (Nat.le_of_ble_eq_true rfl) ?_
  refine lw_callC F (nn := 1) (as := [.int (xs (6 * t + 1))]) (rest := []) (two_line (xs (6 * t + 1)) hR) fX11_line rfl iX11_line vX11_line (by decide +kernel) l13_48 rfl dl_439 hk (Nat.le_of_ble_eq_true rfl) (fun r M' hr => ?_)
  obtain ⟨v, I1, J1, rfl, rfl, hm⟩ := hr
  refine lw_run F [.aload_n 2] (pe := 443) (S' := (lwL t x5 x6, [.ref 91, .int v], mk I1 J1)) ⟨dl_442, rfl⟩ rfl ?_
  refine lw_arg F (j := 1) (by decide) ht dl_443 dl_444 dl_446 dl_447 dl_448 (Nat.le_of_ble_eq_true rfl) ?_
  refine lw_callM F (nn := 1) (as := [.int (xs (6 * t + 1))]) (rest := [.int v]) hm fX12_line rfl iX12_line vX12_line (by decide +kernel) l13_51 rfl dl_449 hk (Nat.le_of_ble_eq_true rfl) (fun r M' hr => ?_)
  obtain ⟨I2, J2, rfl, rfl, h2⟩ := hr
  exact lw_eq F dl_452 rfl (hE I2 J2 h2)
theorem lw_c6 {Ω : mj_Om} {p : Program} {l : Launch} {e : Env} {s : State} {m : MethodId} {below : List Frame} {meth : Method} {c : Code} {b Ls k n t : Nat} {xs : Nat → Int32} {x5 x6 : Option Value} {I : Nat → Nat → Int32} {J : Nat → Nat → Int64} (F : lwF Ω p s m meth c b Ls xs) (ht : 6 * t + 6 ≤ Ls) (hk : lw_kn k n) (hR : Rel I) (hE : ∀ I2 J2, Rel I2 → lwG Ω p l e s m b below meth c k n 1443 (lwL t x5 x6, [], mk I2 J2)) : lwG Ω p l e s m b below meth c k n 457 (lwL t x5 x6, [], mk I J) := by
  refine lw_run F [.aload_n 1] (pe := 458) (S' := (lwL t x5 x6, [.ref 0], mk I J)) ⟨dl_457, rfl⟩ rfl ?_
  refine lw_arg F (j := 1) (by decide) ht dl_458 dl_459 dl_461 dl_462 dl_463 (Nat.le_of_ble_eq_true rfl) ?_
  refine lw_arg F (j := 2) (by decide) ht dl_464 dl_465 dl_467 dl_468 dl_469 (Nat.le_of_ble_eq_true rfl) ?_
  refine lw_callC F (nn := 2) (as := [.int (xs (6 * t + 1)), .int (xs (6 * t + 2))]) (rest := []) (two_rule (xs (6 * t + 1)) (xs (6 * t + 2)) hR) fX11_rule rfl iX11_rule vX11_rule (by decide +kernel) l13_52 rfl dl_470 hk (Nat.le_of_ble_eq_true rfl) (fun r M' hr => ?_)
  obtain ⟨v, I1, J1, rfl, rfl, hm⟩ := hr
  refine lw_run F [.aload_n 2] (pe := 474) (S' := (lwL t x5 x6, [.ref 91, .int v], mk I1 J1)) ⟨dl_473, rfl⟩ rfl ?_
  refine lw_arg F (j := 1) (by decide) ht dl_474 dl_475 dl_477 dl_478 dl_479 (Nat.le_of_ble_eq_true rfl) ?_
  refine lw_arg F (j := 2) (by decide) ht dl_480 dl_481 dl_483 dl_484 dl_485 (Nat.le_of_ble_eq_true rfl) ?_
  refine lw_callM F (nn := 2) (as := [.int (xs (6 * t + 1)), .int (xs (6 * t + 2))]) (rest := [.int v]) hm fX12_rule rfl iX12_rule vX12_rule (by decide +kernel) l13_55 rfl dl_486 hk (Nat.le_of_ble_eq_true rfl) (fun r M' hr => ?_)
  obtain ⟨I2, J2, rfl, rfl, h2⟩ := hr
  exact lw_eq F dl_489 rfl (hE I2 J2 h2)
theorem lw_c7 {Ω : mj_Om} {p : Program} {l : Launch} {e : Env} {s : State} {m : MethodId} {below : List Frame} {meth : Method} {c : Code} {b Ls k n t : Nat} {xs : Nat → Int32} {x5 x6 : Option Value} {I : Nat → Nat → Int32} {J : Nat → Nat → Int64} (F : lwF Ω p s m meth c b Ls xs) (ht : 6 * t + 6 ≤ Ls) (hk : lw_kn k n) (hR : Rel I) (hE : ∀ I2 J2, Rel I2 → lwG Ω p l e s m b below meth c k n 1443 (lwL t x5 x6, [], mk I2 J2)) : lwG Ω p l e s m b below meth c k n 494 (lwL t x5 x6, [], mk I J) := by
  refine lw_run F [.aload_n 1] (pe := 495) (S' := (lwL t x5 x6, [.ref 0], mk I J)) ⟨dl_494, rfl⟩ rfl ?_
  refine lw_arg F (j := 1) (by decide) ht dl_495 dl_496 dl_498 dl_499 dl_500 (Nat.le_of_ble_eq_true rfl) ?_
  refine lw_callC F (nn := 1) (as := [.int (xs (6 * t + 1))]) (rest := []) (two_mark (xs (6 * t + 1)) hR) fX11_mark rfl iX11_mark vX11_mark (by decide +kernel) l13_56 rfl dl_501 hk (Nat.le_of_ble_eq_true rfl) (fun r M' hr => ?_)
  obtain ⟨v, I1, J1, rfl, rfl, hm⟩ := hr
  refine lw_run F [.aload_n 2] (pe := 505) (S' := (lwL t x5 x6, [.ref 91, .int v], mk I1 J1)) ⟨dl_504, rfl⟩ rfl ?_
  refine lw_arg F (j := 1) (by decide) ht dl_505 dl_506 dl_508 dl_509 dl_510 (Nat.le_of_ble_eq_true rfl) ?_
  refine lw_callM F (nn := 1) (as := [.int (xs (6 * t + 1))]) (rest := [.int v]) hm fX12_mark rfl iX12_mark vX12_mark (by decide +kernel) l13_59 rfl dl_511 hk (Nat.le_of_ble_eq_true rfl) (fun r M' hr => ?_)
  obtain ⟨I2, J2, rfl, rfl, h2⟩ := hr
  exact lw_eq F dl_514 rfl (hE I2 J2 h2)
theorem lw_c8 {Ω : mj_Om} {p : Program} {l : Launch} {e : Env} {s : State} {m : MethodId} {below : List Frame} {meth : Method} {c : Code} {b Ls k n t : Nat} {xs : Nat → Int32} {x5 x6 : Option Value} {I : Nat → Nat → Int32} {J : Nat → Nat → Int64} (F : lwF Ω p s m meth c b Ls xs) (ht : 6 * t + 6 ≤ Ls) (hk : lw_kn k n) (hR : Rel I) (hE : ∀ I2 J2, Rel I2 → lwG Ω p l e s m b below meth c k n 1443 (lwL t x5 x6, [], mk I2 J2)) : lwG Ω p l e s m b below meth c k n 519 (lwL t x5 x6, [], mk I J) := by
  refine lw_run F [.aload_n 1] (pe := 520) (S' := (lwL t x5 x6, [.ref 0], mk I J)) ⟨dl_519, rfl⟩ rfl ?_
  refine lw_arg F (j := 1) (by decide) ht dl_520 dl_521 dl_523 dl_524 dl_525 (Nat.le_of_ble_eq_true rfl) ?_
  refine lw_arg F (j := 2) (by decide) ht dl_526 dl_527 dl_529 dl_530 dl_531 (Nat.le_of_ble_eq_true rfl) ?_
  refine lw_callC F (nn := 2) (as := [.int (xs (6 * t + 1)), .int (xs (6 * t + 2))]) (rest := []) (two_speed (xs (6 * t + 1)) (xs (6 * t + 2)) hR) fX11_speed rfl iX11_speed vX11_speed (by decide +kernel) l13_60 rfl dl_532 hk (Nat.le_of_ble_eq_true rfl) (fun r M' hr => ?_)
  obtain ⟨v, I1, J1, rfl, rfl, hm⟩ := hr
  refine lw_run F [.aload_n 2] (pe := 536) (S' := (lwL t x5 x6, [.ref 91, .int v], mk I1 J1)) ⟨dl_535, rfl⟩ rfl ?_
  refine lw_arg F (j := 1) (by decide) ht dl_536 dl_537 dl_539 dl_540 dl_541 (Nat.le_of_ble_eq_true rfl) ?_
  refine lw_arg F (j := 2) (by decide) ht dl_542 dl_543 dl_545 dl_546 dl_547 (Nat.le_of_ble_eq_true rfl) ?_
  refine lw_callM F (nn := 2) (as := [.int (xs (6 * t + 1)), .int (xs (6 * t + 2))]) (rest := [.int v]) hm fX12_speed rfl iX12_speed vX12_speed (by decide +kernel) l13_63 rfl dl_548 hk (Nat.le_of_ble_eq_true rfl) (fun r M' hr => ?_)
  obtain ⟨I2, J2, rfl, rfl, h2⟩ := hr
  exact lw_eq F dl_551 rfl (hE I2 J2 h2)
theorem lw_c9 {Ω : mj_Om} {p : Program} {l : Launch} {e : Env} {s : State} {m : MethodId} {below : List Frame} {meth : Method} {c : Code} {b Ls k n t : Nat} {xs : Nat → Int32} {x5 x6 : Option Value} {I : Nat → Nat → Int32} {J : Nat → Nat → Int64} (F : lwF Ω p s m meth c b Ls xs) (ht : 6 * t + 6 ≤ Ls) (hk : lw_kn k n) (hR : Rel I) (hE : ∀ I2 J2, Rel I2 → lwG Ω p l e s m b below meth c k n 1443 (lwL t x5 x6, [], mk I2 J2)) : lwG Ω p l e s m b below meth c k n 556 (lwL t x5 x6, [], mk I J) := by
  refine lw_run F [.aload_n 1] (pe := 557) (S' := (lwL t x5 x6, [.ref 0], mk I J)) ⟨dl_556, rfl⟩ rfl ?_
  refine lw_arg F (j := 1) (by decide) ht dl_557 dl_558 dl_560 dl_561 dl_562 (Nat.le_of_ble_eq_true rfl) ?_
  refine lw_arg F (j := 2) (by decide) ht dl_563 dl_564 dl_566 dl_567 dl_568 (Nat.le_of_ble_eq_true rfl) ?_
  refine lw_callC F (nn := 2) (as := [.int (xs (6 * t + 1)), .int (xs (6 * t + 2))]) (rest := []) (two_steer (xs (6 * t + 1)) (xs (6 * t + 2)) hR) fX11_steer rfl iX11_steer vX11_steer (by decide +kernel) l13_64 rfl dl_569 hk (Nat.le_of_ble_eq_true rfl) (fun r M' hr => ?_)
  obtain ⟨v, I1, J1, rfl, rfl, hm⟩ := hr
  refine lw_run F [.aload_n 2] (pe := 573) (S' := (lwL t x5 x6, [.ref 91, .int v], mk I1 J1)) ⟨dl_572, rfl⟩ rfl ?_
  refine lw_arg F (j := 1) (by decide) ht dl_573 dl_574 dl_576 dl_577 dl_578 (Nat.le_of_ble_eq_true rfl) ?_
  refine lw_arg F (j := 2) (by decide) ht dl_579 dl_580 dl_582 dl_583 dl_584 (Nat.le_of_ble_eq_true rfl) ?_
  refine lw_callM F (nn := 2) (as := [.int (xs (6 * t + 1)), .int (xs (6 * t + 2))]) (rest := [.int v]) hm fX12_steer rfl iX12_steer vX12_steer (by decide +kernel) l13_67 rfl dl_585 hk (Nat.le_of_ble_eq_true rfl) (fun r M' hr => ?_)
  obtain ⟨I2, J2, rfl, rfl, h2⟩ := hr
  exact lw_eq F dl_588 rfl (hE I2 J2 h2)
theorem lw_c10 {Ω : mj_Om} {p : Program} {l : Launch} {e : Env} {s : State} {m : MethodId} {below : List Frame} {meth : Method} {c : Code} {b Ls k n t : Nat} {xs : Nat → Int32} {x5 x6 : Option Value} {I : Nat → Nat → Int32} {J : Nat → Nat → Int64} (F : lwF Ω p s m meth c b Ls xs) (ht : 6 * t + 6 ≤ Ls) (hk : lw_kn k n) (hR : Rel I) (hE : ∀ I2 J2, Rel I2 → lwG Ω p l e s m b below meth c k n 1443 (lwL t x5 x6, [], mk I2 J2)) : lwG Ω p l e s m b below meth c k n 593 (lwL t x5 x6, [], mk I J) := by
  refine lw_run F [.aload_n 1] (pe := 594) (S' := (lwL t x5 x6, [.ref 0], mk I J)) ⟨dl_593, rfl⟩ rfl ?_
  refine lw_arg F (j := 1) (by decide) ht dl_594 dl_595 dl_597 dl_598 dl_599 (Nat.le_of_ble_eq_true rfl) ?_
  refine lw_callC F (nn := 1) (as := [.int (xs (6 * t + 1))]) (rest := []) (two_gust (xs (6 * t + 1)) hR) fX11_gust rfl iX11_gust vX11_gust (by decide +kernel) l13_68 rfl dl_600 hk (Nat.le_of_ble_eq_true rfl) (fun r M' hr => ?_)
  obtain ⟨v, I1, J1, rfl, rfl, hm⟩ := hr
  refine lw_run F [.aload_n 2] (pe := 604) (S' := (lwL t x5 x6, [.ref 91, .int v], mk I1 J1)) ⟨dl_603, rfl⟩ rfl ?_
  refine lw_arg F (j := 1) (by decide) ht dl_604 dl_605 dl_607 dl_608 dl_609 (Nat.le_of_ble_eq_true rfl) ?_
  refine lw_callM F (nn := 1) (as := [.int (xs (6 * t + 1))]) (rest := [.int v]) hm fX12_gust rfl iX12_gust vX12_gust (by decide +kernel) l13_71 rfl dl_610 hk (Nat.le_of_ble_eq_true rfl) (fun r M' hr => ?_)
  obtain ⟨I2, J2, rfl, rfl, h2⟩ := hr
  exact lw_eq F dl_613 rfl (hE I2 J2 h2)
theorem lw_c11 {Ω : mj_Om} {p : Program} {l : Launch} {e : Env} {s : State} {m : MethodId} {below : List Frame} {meth : Method} {c : Code} {b Ls k n t : Nat} {xs : Nat → Int32} {x5 x6 : Option Value} {I : Nat → Nat → Int32} {J : Nat → Nat → Int64} (F : lwF Ω p s m meth c b Ls xs) (ht : 6 * t + 6 ≤ Ls) (hk : lw_kn k n) (hR : Rel I) (hE : ∀ I2 J2, Rel I2 → lwG Ω p l e s m b below meth c k n 1443 (lwL t x5 x6, [], mk I2 J2)) : lwG Ω p l e s m b below meth c k n 618 (lwL t x5 x6, [], mk I J) := by
  refine lw_run F [.aload_n 1] (pe := 619) (S' := (lwL t x5 x6, [.ref 0], mk I J)) ⟨dl_618, rfl⟩ rfl ?_
  refine lw_arg F (j := 1) (by decide) ht dl_619 dl_620 dl_622 dl_623 dl_624 (Nat.le_of_ble_eq_true rfl) ?_
  refine lw_callC F (nn := 1) (as := [.int (xs (6 * t + 1))]) (rest := []) (two_go (xs (6 * t + 1)) hR) fX11_go rfl iX11_go vX11_go (by decide +kernel) l13_72 rfl dl_625 hk (Nat.le_of_ble_eq_true rfl) (fun r M' hr => ?_)
  obtain ⟨v, I1, J1, rfl, rfl, hm⟩ := hr
  refine lw_run F [.aload_n 2] (pe := 629) (S' := (lwL t x5 x6, [.ref 91, .int v], mk I1 J1)) ⟨dl_628, rfl⟩ rfl ?_
  refine lw_arg F (j := 1) (by decide) ht dl_629 dl_630 dl_632 dl_633 dl_634 (Nat.le_of_ble_eq_true rfl) ?_
  refine lw_callM F (nn := 1) (as := [.int (xs (6 * t + 1))]) (rest := [.int v]) hm fX12_go rfl iX12_go vX12_go (by decide +kernel) l13_75 rfl dl_635 hk (Nat.le_of_ble_eq_true rfl) (fun r M' hr => ?_)
  obtain ⟨I2, J2, rfl, rfl, h2⟩ := hr
  exact lw_eq F dl_638 rfl (hE I2 J2 h2)
theorem lw_c13 {Ω : mj_Om} {p : Program} {l : Launch} {e : Env} {s : State} {m : MethodId} {below : List Frame} {meth : Method} {c : Code} {b Ls k n t : Nat} {xs : Nat → Int32} {x5 x6 : Option Value} {I : Nat → Nat → Int32} {J : Nat → Nat → Int64} (F : lwF Ω p s m meth c b Ls xs) (ht : 6 * t + 6 ≤ Ls) (hk : lw_kn k n) (hR : Rel I) (hE : ∀ I2 J2, Rel I2 → lwG Ω p l e s m b below meth c k n 1443 (lwL t x5 x6, [], mk I2 J2)) : lwG Ω p l e s m b below meth c k n 712 (lwL t x5 x6, [], mk I J) := by
  refine lw_run F [.aload_n 1] (pe := 713) (S' := (lwL t x5 x6, [.ref 0], mk I J)) ⟨dl_712, rfl⟩ rfl ?_
  refine lw_callC F (nn := 0) (as := []) (rest := []) (two_undo hR) fX11_undo rfl iX11_undo vX11_undo (by decide +kernel) l13_83 rfl dl_713 hk (Nat.le_of_ble_eq_true rfl) (fun r M' hr => ?_)
  obtain ⟨v, I1, J1, rfl, rfl, hm⟩ := hr
  refine lw_run F [.aload_n 2] (pe := 717) (S' := (lwL t x5 x6, [.ref 91, .int v], mk I1 J1)) ⟨dl_716, rfl⟩ rfl ?_
  refine lw_callM F (nn := 0) (as := []) (rest := [.int v]) hm fX12_undo rfl iX12_undo vX12_undo (by decide +kernel) l13_86 rfl dl_717 hk (Nat.le_of_ble_eq_true rfl) (fun r M' hr => ?_)
  obtain ⟨I2, J2, rfl, rfl, h2⟩ := hr
  exact lw_eq F dl_720 rfl (hE I2 J2 h2)
theorem lw_c14 {Ω : mj_Om} {p : Program} {l : Launch} {e : Env} {s : State} {m : MethodId} {below : List Frame} {meth : Method} {c : Code} {b Ls k n t : Nat} {xs : Nat → Int32} {x5 x6 : Option Value} {I : Nat → Nat → Int32} {J : Nat → Nat → Int64} (F : lwF Ω p s m meth c b Ls xs) (ht : 6 * t + 6 ≤ Ls) (hk : lw_kn k n) (hR : Rel I) (hE : ∀ I2 J2, Rel I2 → lwG Ω p l e s m b below meth c k n 1443 (lwL t x5 x6, [], mk I2 J2)) : lwG Ω p l e s m b below meth c k n 725 (lwL t x5 x6, [], mk I J) := by
  refine lw_run F [.aload_n 1] (pe := 726) (S' := (lwL t x5 x6, [.ref 0], mk I J)) ⟨dl_725, rfl⟩ rfl ?_
  refine lw_arg F (j := 1) (by decide) ht dl_726 dl_727 dl_729 dl_730 dl_731 (Nat.le_of_ble_eq_true rfl) ?_
  refine lw_arg F (j := 2) (by decide) ht dl_732 dl_733 dl_735 dl_736 dl_737 (Nat.le_of_ble_eq_true rfl) ?_
  refine lw_callC F (nn := 2) (as := [.int (xs (6 * t + 1)), .int (xs (6 * t + 2))]) (rest := []) (two_ahead (xs (6 * t + 1)) (xs (6 * t + 2)) hR) fX11_ahead rfl iX11_ahead vX11_ahead (by decide +kernel) l13_87 rfl dl_738 hk (Nat.le_of_ble_eq_true rfl) (fun r M' hr => ?_)
  obtain ⟨v, I1, J1, rfl, rfl, hm⟩ := hr
  refine lw_run F [.aload_n 2] (pe := 742) (S' := (lwL t x5 x6, [.ref 91, .int v], mk I1 J1)) ⟨dl_741, rfl⟩ rfl ?_
  refine lw_arg F (j := 1) (by decide) ht dl_742 dl_743 dl_745 dl_746 dl_747 (Nat.le_of_ble_eq_true rfl) ?_
  refine lw_arg F (j := 2) (by decide) ht dl_748 dl_749 dl_751 dl_752 dl_753 (Nat.le_of_ble_eq_true rfl) ?_
  refine lw_callM F (nn := 2) (as := [.int (xs (6 * t + 1)), .int (xs (6 * t + 2))]) (rest := [.int v]) hm fX12_ahead rfl iX12_ahead vX12_ahead (by decide +kernel) l13_90 rfl dl_754 hk (Nat.le_of_ble_eq_true rfl) (fun r M' hr => ?_)
  obtain ⟨I2, J2, rfl, rfl, h2⟩ := hr
  exact lw_eq F dl_757 rfl (hE I2 J2 h2)
theorem lw_c15 {Ω : mj_Om} {p : Program} {l : Launch} {e : Env} {s : State} {m : MethodId} {below : List Frame} {meth : Method} {c : Code} {b Ls k n t : Nat} {xs : Nat → Int32} {x5 x6 : Option Value} {I : Nat → Nat → Int32} {J : Nat → Nat → Int64} (F : lwF Ω p s m meth c b Ls xs) (ht : 6 * t + 6 ≤ Ls) (hk : lw_kn k n) (hR : Rel I) (hE : ∀ I2 J2, Rel I2 → lwG Ω p l e s m b below meth c k n 1443 (lwL t x5 x6, [], mk I2 J2)) : lwG Ω p l e s m b below meth c k n 762 (lwL t x5 x6, [], mk I J) := by
  refine lw_run F [.aload_n 1] (pe := 763) (S' := (lwL t x5 x6, [.ref 0], mk I J)) ⟨dl_762, rfl⟩ rfl ?_
  refine lw_arg F (j := 1) (by decide) ht dl_763 dl_764 dl_766 dl_767 dl_768 (Nat.le_of_ble_eq_true rfl) ?_
  refine lw_arg F (j := 2) (by decide) ht dl_769 dl_770 dl_772 dl_773 dl_774 (Nat.le_of_ble_eq_true rfl) ?_
  refine lw_callC F (nn := 2) (as := [.int (xs (6 * t + 1)), .int (xs (6 * t + 2))]) (rest := []) (two_where (xs (6 * t + 1)) (xs (6 * t + 2)) hR) fX11_where rfl iX11_where vX11_where (by decide +kernel) l13_91 rfl dl_775 hk (Nat.le_of_ble_eq_true rfl) (fun r M' hr => ?_)
  obtain ⟨v, I1, J1, rfl, rfl, hm⟩ := hr
  refine lw_run F [.aload_n 2] (pe := 779) (S' := (lwL t x5 x6, [.ref 91, .int v], mk I1 J1)) ⟨dl_778, rfl⟩ rfl ?_
  refine lw_arg F (j := 1) (by decide) ht dl_779 dl_780 dl_782 dl_783 dl_784 (Nat.le_of_ble_eq_true rfl) ?_
  refine lw_arg F (j := 2) (by decide) ht dl_785 dl_786 dl_788 dl_789 dl_790 (Nat.le_of_ble_eq_true rfl) ?_
  refine lw_callM F (nn := 2) (as := [.int (xs (6 * t + 1)), .int (xs (6 * t + 2))]) (rest := [.int v]) hm fX12_where rfl iX12_where vX12_where (by decide +kernel) l13_94 rfl dl_791 hk (Nat.le_of_ble_eq_true rfl) (fun r M' hr => ?_)
  obtain ⟨I2, J2, rfl, rfl, h2⟩ := hr
  exact lw_eq F dl_794 rfl (hE I2 J2 h2)
theorem lw_c16 {Ω : mj_Om} {p : Program} {l : Launch} {e : Env} {s : State} {m : MethodId} {below : List Frame} {meth : Method} {c : Code} {b Ls k n t : Nat} {xs : Nat → Int32} {x5 x6 : Option Value} {I : Nat → Nat → Int32} {J : Nat → Nat → Int64} (F : lwF Ω p s m meth c b Ls xs) (ht : 6 * t + 6 ≤ Ls) (hk : lw_kn k n) (hR : Rel I) (hE : ∀ I2 J2, Rel I2 → lwG Ω p l e s m b below meth c k n 1443 (lwL t x5 x6, [], mk I2 J2)) : lwG Ω p l e s m b below meth c k n 799 (lwL t x5 x6, [], mk I J) := by
  refine lw_run F [.aload_n 1] (pe := 800) (S' := (lwL t x5 x6, [.ref 0], mk I J)) ⟨dl_799, rfl⟩ rfl ?_
  refine lw_arg F (j := 1) (by decide) ht dl_800 dl_801 dl_803 dl_804 dl_805 (Nat.le_of_ble_eq_true rfl) ?_
  refine lw_arg F (j := 2) (by decide) ht dl_806 dl_807 dl_809 dl_810 dl_811 (Nat.le_of_ble_eq_true rfl) ?_
  refine lw_callC F (nn := 2) (as := [.int (xs (6 * t + 1)), .int (xs (6 * t + 2))]) (rest := []) (two_near (xs (6 * t + 1)) (xs (6 * t + 2)) hR) fX11_near rfl iX11_near vX11_near (by decide +kernel) l13_95 rfl dl_812 hk (Nat.le_of_ble_eq_true rfl) (fun r M' hr => ?_)
  obtain ⟨v, I1, J1, rfl, rfl, hm⟩ := hr
  refine lw_run F [.aload_n 2] (pe := 816) (S' := (lwL t x5 x6, [.ref 91, .int v], mk I1 J1)) ⟨dl_815, rfl⟩ rfl ?_
  refine lw_arg F (j := 1) (by decide) ht dl_816 dl_817 dl_819 dl_820 dl_821 (Nat.le_of_ble_eq_true rfl) ?_
  refine lw_arg F (j := 2) (by decide) ht dl_822 dl_823 dl_825 dl_826 dl_827 (Nat.le_of_ble_eq_true rfl) ?_
  refine lw_callM F (nn := 2) (as := [.int (xs (6 * t + 1)), .int (xs (6 * t + 2))]) (rest := [.int v]) hm fX12_near rfl iX12_near vX12_near (by decide +kernel) l13_98 rfl dl_828 hk (Nat.le_of_ble_eq_true rfl) (fun r M' hr => ?_)
  obtain ⟨I2, J2, rfl, rfl, h2⟩ := hr
  exact lw_eq F dl_831 rfl (hE I2 J2 h2)
theorem lw_c17 {Ω : mj_Om} {p : Program} {l : Launch} {e : Env} {s : State} {m : MethodId} {below : List Frame} {meth : Method} {c : Code} {b Ls k n t : Nat} {xs : Nat → Int32} {x5 x6 : Option Value} {I : Nat → Nat → Int32} {J : Nat → Nat → Int64} (F : lwF Ω p s m meth c b Ls xs) (ht : 6 * t + 6 ≤ Ls) (hk : lw_kn k n) (hR : Rel I) (hE : ∀ I2 J2, Rel I2 → lwG Ω p l e s m b below meth c k n 1443 (lwL t x5 x6, [], mk I2 J2)) : lwG Ω p l e s m b below meth c k n 836 (lwL t x5 x6, [], mk I J) := by
  refine lw_run F [.aload_n 1] (pe := 837) (S' := (lwL t x5 x6, [.ref 0], mk I J)) ⟨dl_836, rfl⟩ rfl ?_
  refine lw_arg F (j := 1) (by decide) ht dl_837 dl_838 dl_840 dl_841 dl_842 (Nat.le_of_ble_eq_true rfl) ?_
  refine lw_arg F (j := 2) (by decide) ht dl_843 dl_844 dl_846 dl_847 dl_848 (Nat.le_of_ble_eq_true rfl) ?_
  refine lw_callC F (nn := 2) (as := [.int (xs (6 * t + 1)), .int (xs (6 * t + 2))]) (rest := []) (two_hold (xs (6 * t + 1)) (xs (6 * t + 2)) hR) fX11_hold rfl iX11_hold vX11_hold (by decide +kernel) l13_99 rfl dl_849 hk (Nat.le_of_ble_eq_true rfl) (fun r M' hr => ?_)
  obtain ⟨v, I1, J1, rfl, rfl, hm⟩ := hr
  refine lw_run F [.aload_n 2] (pe := 853) (S' := (lwL t x5 x6, [.ref 91, .int v], mk I1 J1)) ⟨dl_852, rfl⟩ rfl ?_
  refine lw_arg F (j := 1) (by decide) ht dl_853 dl_854 dl_856 dl_857 dl_858 (Nat.le_of_ble_eq_true rfl) ?_
  refine lw_arg F (j := 2) (by decide) ht dl_859 dl_860 dl_862 dl_863 dl_864 (Nat.le_of_ble_eq_true rfl) ?_
  refine lw_callM F (nn := 2) (as := [.int (xs (6 * t + 1)), .int (xs (6 * t + 2))]) (rest := [.int v]) hm fX12_hold rfl iX12_hold vX12_hold (by decide +kernel) l13_102 rfl dl_865 hk (Nat.le_of_ble_eq_true rfl) (fun r M' hr => ?_)
  obtain ⟨I2, J2, rfl, rfl, h2⟩ := hr
  exact lw_eq F dl_868 rfl (hE I2 J2 h2)
theorem lw_c18 {Ω : mj_Om} {p : Program} {l : Launch} {e : Env} {s : State} {m : MethodId} {below : List Frame} {meth : Method} {c : Code} {b Ls k n t : Nat} {xs : Nat → Int32} {x5 x6 : Option Value} {I : Nat → Nat → Int32} {J : Nat → Nat → Int64} (F : lwF Ω p s m meth c b Ls xs) (ht : 6 * t + 6 ≤ Ls) (hk : lw_kn k n) (hR : Rel I) (hE : ∀ I2 J2, Rel I2 → lwG Ω p l e s m b below meth c k n 1443 (lwL t x5 x6, [], mk I2 J2)) : lwG Ω p l e s m b below meth c k n 873 (lwL t x5 x6, [], mk I J) := by
  refine lw_run F [.aload_n 1] (pe := 874) (S' := (lwL t x5 x6, [.ref 0], mk I J)) ⟨dl_873, rfl⟩ rfl ?_
  refine lw_arg F (j := 1) (by decide) ht dl_874 dl_875 dl_877 dl_878 dl_879 (Nat.le_of_ble_eq_true rfl) ?_
  refine lw_arg F (j := 2) (by decide) ht dl_880 dl_881 dl_883 dl_884 dl_885 (Nat.le_of_ble_eq_true rfl) ?_
  refine lw_callC F (nn := 2) (as := [.int (xs (6 * t + 1)), .int (xs (6 * t + 2))]) (rest := []) (two_row (xs (6 * t + 1)) (xs (6 * t + 2)) hR) fX11_row rfl iX11_row vX11_row (by decide +kernel) l13_103 rfl dl_886 hk (Nat.le_of_ble_eq_true rfl) (fun r M' hr => ?_)
  obtain ⟨v, I1, J1, rfl, rfl, hm⟩ := hr
  refine lw_run F [.aload_n 2] (pe := 890) (S' := (lwL t x5 x6, [.ref 91, .int v], mk I1 J1)) ⟨dl_889, rfl⟩ rfl ?_
  refine lw_arg F (j := 1) (by decide) ht dl_890 dl_891 dl_893 dl_894 dl_895 (Nat.le_of_ble_eq_true rfl) ?_
  refine lw_arg F (j := 2) (by decide) ht dl_896 dl_897 dl_899 dl_900 dl_901 (Nat.le_of_ble_eq_true rfl) ?_
  refine lw_callM F (nn := 2) (as := [.int (xs (6 * t + 1)), .int (xs (6 * t + 2))]) (rest := [.int v]) hm fX12_row rfl iX12_row vX12_row (by decide +kernel) l13_106 rfl dl_902 hk (Nat.le_of_ble_eq_true rfl) (fun r M' hr => ?_)
  obtain ⟨I2, J2, rfl, rfl, h2⟩ := hr
  exact lw_eq F dl_905 rfl (hE I2 J2 h2)
theorem lw_c19 {Ω : mj_Om} {p : Program} {l : Launch} {e : Env} {s : State} {m : MethodId} {below : List Frame} {meth : Method} {c : Code} {b Ls k n t : Nat} {xs : Nat → Int32} {x5 x6 : Option Value} {I : Nat → Nat → Int32} {J : Nat → Nat → Int64} (F : lwF Ω p s m meth c b Ls xs) (ht : 6 * t + 6 ≤ Ls) (hk : lw_kn k n) (hR : Rel I) (hE : ∀ I2 J2, Rel I2 → lwG Ω p l e s m b below meth c k n 1443 (lwL t x5 x6, [], mk I2 J2)) : lwG Ω p l e s m b below meth c k n 910 (lwL t x5 x6, [], mk I J) := by
  refine lw_run F [.aload_n 1] (pe := 911) (S' := (lwL t x5 x6, [.ref 0], mk I J)) ⟨dl_910, rfl⟩ rfl ?_
  refine lw_callC F (nn := 0) (as := []) (rest := []) (two_tides hR) fX11_tides rfl iX11_tides vX11_tides (by decide +kernel) l13_107 rfl dl_911 hk (Nat.le_of_ble_eq_true rfl) (fun r M' hr => ?_)
  obtain ⟨v, I1, J1, rfl, rfl, hm⟩ := hr
  refine lw_run F [.aload_n 2] (pe := 915) (S' := (lwL t x5 x6, [.ref 91, .int v], mk I1 J1)) ⟨dl_914, rfl⟩ rfl ?_
  refine lw_callM F (nn := 0) (as := []) (rest := [.int v]) hm fX12_tides rfl iX12_tides vX12_tides (by decide +kernel) l13_110 rfl dl_915 hk (Nat.le_of_ble_eq_true rfl) (fun r M' hr => ?_)
  obtain ⟨I2, J2, rfl, rfl, h2⟩ := hr
  exact lw_eq F dl_918 rfl (hE I2 J2 h2)
theorem lw_c20 {Ω : mj_Om} {p : Program} {l : Launch} {e : Env} {s : State} {m : MethodId} {below : List Frame} {meth : Method} {c : Code} {b Ls k n t : Nat} {xs : Nat → Int32} {x5 x6 : Option Value} {I : Nat → Nat → Int32} {J : Nat → Nat → Int64} (F : lwF Ω p s m meth c b Ls xs) (ht : 6 * t + 6 ≤ Ls) (hk : lw_kn k n) (hR : Rel I) (hE : ∀ I2 J2, Rel I2 → lwG Ω p l e s m b below meth c k n 1443 (lwL t x5 x6, [], mk I2 J2)) : lwG Ω p l e s m b below meth c k n 923 (lwL t x5 x6, [], mk I J) := by
  refine lw_run F [.aload_n 1] (pe := 924) (S' := (lwL t x5 x6, [.ref 0], mk I J)) ⟨dl_923, rfl⟩ rfl ?_
  refine lw_arg F (j := 1) (by decide) ht dl_924 dl_925 dl_927 dl_928 dl_929 (Nat.le_of_ble_eq_true rfl) ?_
  refine lw_callC F (nn := 1) (as := [.int (xs (6 * t + 1))]) (rest := []) (two_sag (xs (6 * t + 1)) hR) fX11_sag rfl iX11_sag vX11_sag (by decide +kernel) l13_111 rfl dl_930 hk (Nat.le_of_ble_eq_true rfl) (fun r M' hr => ?_)
  obtain ⟨v, I1, J1, rfl, rfl, hm⟩ := hr
  refine lw_run F [.aload_n 2] (pe := 934) (S' := (lwL t x5 x6, [.ref 91, .int v], mk I1 J1)) ⟨dl_933, rfl⟩ rfl ?_
  refine lw_arg F (j := 1) (by decide) ht dl_934 dl_935 dl_937 dl_938 dl_939 (Nat.le_of_ble_eq_true rfl) ?_
  refine lw_callM F (nn := 1) (as := [.int (xs (6 * t + 1))]) (rest := [.int v]) hm fX12_sag rfl iX12_sag vX12_sag (by decide +kernel) l13_114 rfl dl_940 hk (Nat.le_of_ble_eq_true rfl) (fun r M' hr => ?_)
  obtain ⟨I2, J2, rfl, rfl, h2⟩ := hr
  exact lw_eq F dl_943 rfl (hE I2 J2 h2)
theorem lw_c21 {Ω : mj_Om} {p : Program} {l : Launch} {e : Env} {s : State} {m : MethodId} {below : List Frame} {meth : Method} {c : Code} {b Ls k n t : Nat} {xs : Nat → Int32} {x5 x6 : Option Value} {I : Nat → Nat → Int32} {J : Nat → Nat → Int64} (F : lwF Ω p s m meth c b Ls xs) (ht : 6 * t + 6 ≤ Ls) (hk : lw_kn k n) (hR : Rel I) (hE : ∀ I2 J2, Rel I2 → lwG Ω p l e s m b below meth c k n 1443 (lwL t x5 x6, [], mk I2 J2)) : lwG Ω p l e s m b below meth c k n 948 (lwL t x5 x6, [], mk I J) := by
  refine lw_run F [.aload_n 1] (pe := 949) (S' := (lwL t x5 x6, [.ref 0], mk I J)) ⟨dl_948, rfl⟩ rfl ?_
  refine lw_arg F (j := 1) (by decide) ht dl_949 dl_950 dl_952 dl_953 dl_954 (Nat.le_of_ble_eq_true rfl) ?_
  refine lw_callC F (nn := 1) (as := [.int (xs (6 * t + 1))]) (rest := []) (two_heap (xs (6 * t + 1)) hR) fX11_heap rfl iX11_heap vX11_heap (by decide +kernel) l13_115 rfl dl_955 hk (Nat.le_of_ble_eq_true rfl) (fun r M' hr => ?_)
  obtain ⟨v, I1, J1, rfl, rfl, hm⟩ := hr
  refine lw_run F [.aload_n 2] (pe := 959) (S' := (lwL t x5 x6, [.ref 91, .int v], mk I1 J1)) ⟨dl_958, rfl⟩ rfl ?_
  refine lw_arg F (j := 1) (by decide) ht dl_959 dl_960 dl_962 dl_963 dl_964 (Nat.le_of_ble_eq_true rfl) ?_
  refine lw_callM F (nn := 1) (as := [.int (xs (6 * t + 1))]) (rest := [.int v]) hm fX12_heap rfl iX12_heap vX12_heap (by decide +kernel) l13_118 rfl dl_965 hk (Nat.le_of_ble_eq_true rfl) (fun r M' hr => ?_)
  obtain ⟨I2, J2, rfl, rfl, h2⟩ := hr
  exact lw_eq F dl_968 rfl (hE I2 J2 h2)
theorem lw_c22 {Ω : mj_Om} {p : Program} {l : Launch} {e : Env} {s : State} {m : MethodId} {below : List Frame} {meth : Method} {c : Code} {b Ls k n t : Nat} {xs : Nat → Int32} {x5 x6 : Option Value} {I : Nat → Nat → Int32} {J : Nat → Nat → Int64} (F : lwF Ω p s m meth c b Ls xs) (ht : 6 * t + 6 ≤ Ls) (hk : lw_kn k n) (hR : Rel I) (hE : ∀ I2 J2, Rel I2 → lwG Ω p l e s m b below meth c k n 1443 (lwL t x5 x6, [], mk I2 J2)) : lwG Ω p l e s m b below meth c k n 973 (lwL t x5 x6, [], mk I J) := by
  refine lw_run F [.aload_n 1] (pe := 974) (S' := (lwL t x5 x6, [.ref 0], mk I J)) ⟨dl_973, rfl⟩ rfl ?_
  refine lw_arg F (j := 1) (by decide) ht dl_974 dl_975 dl_977 dl_978 dl_979 (Nat.le_of_ble_eq_true rfl) ?_
  refine lw_callC F (nn := 1) (as := [.int (xs (6 * t + 1))]) (rest := []) (two_hole (xs (6 * t + 1)) hR) fX11_hole rfl iX11_hole vX11_hole (by decide +kernel) l13_119 rfl dl_980 hk (Nat.le_of_ble_eq_true rfl) (fun r M' hr => ?_)
  obtain ⟨v, I1, J1, rfl, rfl, hm⟩ := hr
  refine lw_run F [.aload_n 2] (pe := 984) (S' := (lwL t x5 x6, [.ref 91, .int v], mk I1 J1)) ⟨dl_983, rfl⟩ rfl ?_
  refine lw_arg F (j := 1) (by decide) ht dl_984 dl_985 dl_987 dl_988 dl_989 (Nat.le_of_ble_eq_true rfl) ?_
  refine lw_callM F (nn := 1) (as := [.int (xs (6 * t + 1))]) (rest := [.int v]) hm fX12_hole rfl iX12_hole vX12_hole (by decide +kernel) l13_122 rfl dl_990 hk (Nat.le_of_ble_eq_true rfl) (fun r M' hr => ?_)
  obtain ⟨I2, J2, rfl, rfl, h2⟩ := hr
  exact lw_eq F dl_993 rfl (hE I2 J2 h2)
theorem lw_c23 {Ω : mj_Om} {p : Program} {l : Launch} {e : Env} {s : State} {m : MethodId} {below : List Frame} {meth : Method} {c : Code} {b Ls k n t : Nat} {xs : Nat → Int32} {x5 x6 : Option Value} {I : Nat → Nat → Int32} {J : Nat → Nat → Int64} (F : lwF Ω p s m meth c b Ls xs) (ht : 6 * t + 6 ≤ Ls) (hk : lw_kn k n) (hR : Rel I) (hE : ∀ I2 J2, Rel I2 → lwG Ω p l e s m b below meth c k n 1443 (lwL t x5 x6, [], mk I2 J2)) : lwG Ω p l e s m b below meth c k n 998 (lwL t x5 x6, [], mk I J) := by
  refine lw_run F [.aload_n 1] (pe := 999) (S' := (lwL t x5 x6, [.ref 0], mk I J)) ⟨dl_998, rfl⟩ rfl ?_
  refine lw_arg F (j := 1) (by decide) ht dl_999 dl_1000 dl_1002 dl_1003 dl_1004 (Nat.le_of_ble_eq_true rfl) ?_
  refine lw_callC F (nn := 1) (as := [.int (xs (6 * t + 1))]) (rest := []) (two_keeps (xs (6 * t + 1)) hR) fX11_keeps rfl iX11_keeps vX11_keeps (by decide +kernel) l13_123 rfl dl_1005 hk (Nat.le_of_ble_eq_true rfl) (fun r M' hr => ?_)
  obtain ⟨v, I1, J1, rfl, rfl, hm⟩ := hr
  refine lw_run F [.aload_n 2] (pe := 1009) (S' := (lwL t x5 x6, [.ref 91, .int v], mk I1 J1)) ⟨dl_1008, rfl⟩ rfl ?_
  refine lw_arg F (j := 1) (by decide) ht dl_1009 dl_1010 dl_1012 dl_1013 dl_1014 (Nat.le_of_ble_eq_true rfl) ?_
  refine lw_callM F (nn := 1) (as := [.int (xs (6 * t + 1))]) (rest := [.int v]) hm fX12_keeps rfl iX12_keeps vX12_keeps (by decide +kernel) l13_126 rfl dl_1015 hk (Nat.le_of_ble_eq_true rfl) (fun r M' hr => ?_)
  obtain ⟨I2, J2, rfl, rfl, h2⟩ := hr
  exact lw_eq F dl_1018 rfl (hE I2 J2 h2)
theorem lw_c24 {Ω : mj_Om} {p : Program} {l : Launch} {e : Env} {s : State} {m : MethodId} {below : List Frame} {meth : Method} {c : Code} {b Ls k n t : Nat} {xs : Nat → Int32} {x5 x6 : Option Value} {I : Nat → Nat → Int32} {J : Nat → Nat → Int64} (F : lwF Ω p s m meth c b Ls xs) (ht : 6 * t + 6 ≤ Ls) (hk : lw_kn k n) (hR : Rel I) (hE : ∀ I2 J2, Rel I2 → lwG Ω p l e s m b below meth c k n 1443 (lwL t x5 x6, [], mk I2 J2)) : lwG Ω p l e s m b below meth c k n 1023 (lwL t x5 x6, [], mk I J) := by
  refine lw_run F [.aload_n 1] (pe := 1024) (S' := (lwL t x5 x6, [.ref 0], mk I J)) ⟨dl_1023, rfl⟩ rfl ?_
  refine lw_arg F (j := 1) (by decide) ht dl_1024 dl_1025 dl_1027 dl_1028 dl_1029 (Nat.le_of_ble_eq_true rfl) ?_
  refine lw_callC F (nn := 1) (as := [.int (xs (6 * t + 1))]) (rest := []) (two_which (xs (6 * t + 1)) hR) fX11_which rfl iX11_which vX11_which (by decide +kernel) l13_127 rfl dl_1030 hk (Nat.le_of_ble_eq_true rfl) (fun r M' hr => ?_)
  obtain ⟨v, I1, J1, rfl, rfl, hm⟩ := hr
  refine lw_run F [.aload_n 2] (pe := 1034) (S' := (lwL t x5 x6, [.ref 91, .int v], mk I1 J1)) ⟨dl_1033, rfl⟩ rfl ?_
  refine lw_arg F (j := 1) (by decide) ht dl_1034 dl_1035 dl_1037 dl_1038 dl_1039 (Nat.le_of_ble_eq_true rfl) ?_
  refine lw_callM F (nn := 1) (as := [.int (xs (6 * t + 1))]) (rest := [.int v]) hm fX12_which rfl iX12_which vX12_which (by decide +kernel) l13_130 rfl dl_1040 hk (Nat.le_of_ble_eq_true rfl) (fun r M' hr => ?_)
  obtain ⟨I2, J2, rfl, rfl, h2⟩ := hr
  exact lw_eq F dl_1043 rfl (hE I2 J2 h2)
theorem lw_c25 {Ω : mj_Om} {p : Program} {l : Launch} {e : Env} {s : State} {m : MethodId} {below : List Frame} {meth : Method} {c : Code} {b Ls k n t : Nat} {xs : Nat → Int32} {x5 x6 : Option Value} {I : Nat → Nat → Int32} {J : Nat → Nat → Int64} (F : lwF Ω p s m meth c b Ls xs) (ht : 6 * t + 6 ≤ Ls) (hk : lw_kn k n) (hR : Rel I) (hE : ∀ I2 J2, Rel I2 → lwG Ω p l e s m b below meth c k n 1443 (lwL t x5 x6, [], mk I2 J2)) : lwG Ω p l e s m b below meth c k n 1048 (lwL t x5 x6, [], mk I J) := by
  refine lw_run F [.aload_n 1] (pe := 1049) (S' := (lwL t x5 x6, [.ref 0], mk I J)) ⟨dl_1048, rfl⟩ rfl ?_
  refine lw_arg F (j := 1) (by decide) ht dl_1049 dl_1050 dl_1052 dl_1053 dl_1054 (Nat.le_of_ble_eq_true rfl) ?_
  refine lw_callC F (nn := 1) (as := [.int (xs (6 * t + 1))]) (rest := []) (two_rests (xs (6 * t + 1)) hR) fX11_rests rfl iX11_rests vX11_rests (by decide +kernel) l13_131 rfl dl_1055 hk (Nat.le_of_ble_eq_true rfl) (fun r M' hr => ?_)
  obtain ⟨v, I1, J1, rfl, rfl, hm⟩ := hr
  refine lw_run F [.aload_n 2] (pe := 1059) (S' := (lwL t x5 x6, [.ref 91, .int v], mk I1 J1)) ⟨dl_1058, rfl⟩ rfl ?_
  refine lw_arg F (j := 1) (by decide) ht dl_1059 dl_1060 dl_1062 dl_1063 dl_1064 (Nat.le_of_ble_eq_true rfl) ?_
  refine lw_callM F (nn := 1) (as := [.int (xs (6 * t + 1))]) (rest := [.int v]) hm fX12_rests rfl iX12_rests vX12_rests (by decide +kernel) l13_134 rfl dl_1065 hk (Nat.le_of_ble_eq_true rfl) (fun r M' hr => ?_)
  obtain ⟨I2, J2, rfl, rfl, h2⟩ := hr
  exact lw_eq F dl_1068 rfl (hE I2 J2 h2)
theorem lw_c26 {Ω : mj_Om} {p : Program} {l : Launch} {e : Env} {s : State} {m : MethodId} {below : List Frame} {meth : Method} {c : Code} {b Ls k n t : Nat} {xs : Nat → Int32} {x5 x6 : Option Value} {I : Nat → Nat → Int32} {J : Nat → Nat → Int64} (F : lwF Ω p s m meth c b Ls xs) (ht : 6 * t + 6 ≤ Ls) (hk : lw_kn k n) (hR : Rel I) (hE : ∀ I2 J2, Rel I2 → lwG Ω p l e s m b below meth c k n 1443 (lwL t x5 x6, [], mk I2 J2)) : lwG Ω p l e s m b below meth c k n 1073 (lwL t x5 x6, [], mk I J) := by
  refine lw_run F [.aload_n 1] (pe := 1074) (S' := (lwL t x5 x6, [.ref 0], mk I J)) ⟨dl_1073, rfl⟩ rfl ?_
  refine lw_arg F (j := 1) (by decide) ht dl_1074 dl_1075 dl_1077 dl_1078 dl_1079 (Nat.le_of_ble_eq_true rfl) ?_
  refine lw_callC F (nn := 1) (as := [.int (xs (6 * t + 1))]) (rest := []) (two_spread (xs (6 * t + 1)) hR) fX11_spread rfl iX11_spread vX11_spread (by decide +kernel) l13_135 rfl dl_1080 hk (Nat.le_of_ble_eq_true rfl) (fun r M' hr => ?_)
  obtain ⟨v, I1, J1, rfl, rfl, hm⟩ := hr
  refine lw_run F [.aload_n 2] (pe := 1084) (S' := (lwL t x5 x6, [.ref 91, .int v], mk I1 J1)) ⟨dl_1083, rfl⟩ rfl ?_
  refine lw_arg F (j := 1) (by decide) ht dl_1084 dl_1085 dl_1087 dl_1088 dl_1089 (Nat.le_of_ble_eq_true rfl) ?_
  refine lw_callM F (nn := 1) (as := [.int (xs (6 * t + 1))]) (rest := [.int v]) hm fX12_spread rfl iX12_spread vX12_spread (by decide +kernel) l13_138 rfl dl_1090 hk (Nat.le_of_ble_eq_true rfl) (fun r M' hr => ?_)
  obtain ⟨I2, J2, rfl, rfl, h2⟩ := hr
  exact lw_eq F dl_1093 rfl (hE I2 J2 h2)
theorem lw_c27 {Ω : mj_Om} {p : Program} {l : Launch} {e : Env} {s : State} {m : MethodId} {below : List Frame} {meth : Method} {c : Code} {b Ls k n t : Nat} {xs : Nat → Int32} {x5 x6 : Option Value} {I : Nat → Nat → Int32} {J : Nat → Nat → Int64} (F : lwF Ω p s m meth c b Ls xs) (ht : 6 * t + 6 ≤ Ls) (hk : lw_kn k n) (hR : Rel I) (hE : ∀ I2 J2, Rel I2 → lwG Ω p l e s m b below meth c k n 1443 (lwL t x5 x6, [], mk I2 J2)) : lwG Ω p l e s m b below meth c k n 1098 (lwL t x5 x6, [], mk I J) := by
  refine lw_run F [.aload_n 1] (pe := 1099) (S' := (lwL t x5 x6, [.ref 0], mk I J)) ⟨dl_1098, rfl⟩ rfl ?_
  refine lw_arg F (j := 1) (by decide) ht dl_1099 dl_1100 dl_1102 dl_1103 dl_1104 (Nat.le_of_ble_eq_true rfl) ?_
  refine lw_arg F (j := 2) (by decide) ht dl_1105 dl_1106 dl_1108 dl_1109 dl_1110 (Nat.le_of_ble_eq_true rfl) ?_
  refine lw_callC F (nn := 2) (as := [.int (xs (6 * t + 1)), .int (xs (6 * t + 2))]) (rest := []) (two_duel (xs (6 * t + 1)) (xs (6 * t + 2)) hR) fX11_duel rfl iX11_duel vX11_duel (by decide +kernel) l13_139 rfl dl_1111 hk (Nat.le_of_ble_eq_true rfl) (fun r M' hr => ?_)
  obtain ⟨v, I1, J1, rfl, rfl, hm⟩ := hr
  refine lw_run F [.aload_n 2] (pe := 1115) (S' := (lwL t x5 x6, [.ref 91, .int v], mk I1 J1)) ⟨dl_1114, rfl⟩ rfl ?_
  refine lw_arg F (j := 1) (by decide) ht dl_1115 dl_1116 dl_1118 dl_1119 dl_1120 (Nat.le_of_ble_eq_true rfl) ?_
  refine lw_arg F (j := 2) (by decide) ht dl_1121 dl_1122 dl_1124 dl_1125 dl_1126 (Nat.le_of_ble_eq_true rfl) ?_
  refine lw_callM F (nn := 2) (as := [.int (xs (6 * t + 1)), .int (xs (6 * t + 2))]) (rest := [.int v]) hm fX12_duel rfl iX12_duel vX12_duel (by decide +kernel) l13_142 rfl dl_1127 hk (Nat.le_of_ble_eq_true rfl) (fun r M' hr => ?_)
  obtain ⟨I2, J2, rfl, rfl, h2⟩ := hr
  exact lw_eq F dl_1130 rfl (hE I2 J2 h2)
theorem lw_c28 {Ω : mj_Om} {p : Program} {l : Launch} {e : Env} {s : State} {m : MethodId} {below : List Frame} {meth : Method} {c : Code} {b Ls k n t : Nat} {xs : Nat → Int32} {x5 x6 : Option Value} {I : Nat → Nat → Int32} {J : Nat → Nat → Int64} (F : lwF Ω p s m meth c b Ls xs) (ht : 6 * t + 6 ≤ Ls) (hk : lw_kn k n) (hR : Rel I) (hE : ∀ I2 J2, Rel I2 → lwG Ω p l e s m b below meth c k n 1443 (lwL t x5 x6, [], mk I2 J2)) : lwG Ω p l e s m b below meth c k n 1135 (lwL t x5 x6, [], mk I J) := by
  refine lw_run F [.aload_n 1] (pe := 1136) (S' := (lwL t x5 x6, [.ref 0], mk I J)) ⟨dl_1135, rfl⟩ rfl ?_
  refine lw_arg F (j := 1) (by decide) ht dl_1136 dl_1137 dl_1139 dl_1140 dl_1141 (Nat.le_of_ble_eq_true rfl) ?_
  refine lw_callC F (nn := 1) (as := [.int (xs (6 * t + 1))]) (rest := []) (two_reply (xs (6 * t + 1)) hR) fX11_reply rfl iX11_reply vX11_reply (by decide +kernel) l13_143 rfl dl_1142 hk (Nat.le_of_ble_eq_true rfl) (fun r M' hr => ?_)
  obtain ⟨v, I1, J1, rfl, rfl, hm⟩ := hr
  refine lw_run F [.aload_n 2] (pe := 1146) (S' := (lwL t x5 x6, [.ref 91, .int v], mk I1 J1)) ⟨dl_1145, rfl⟩ rfl ?_
  refine lw_arg F (j := 1) (by decide) ht dl_1146 dl_1147 dl_1149 dl_1150 dl_1151 (Nat.le_of_ble_eq_true rfl) ?_
  refine lw_callM F (nn := 1) (as := [.int (xs (6 * t + 1))]) (rest := [.int v]) hm fX12_reply rfl iX12_reply vX12_reply (by decide +kernel) l13_146 rfl dl_1152 hk (Nat.le_of_ble_eq_true rfl) (fun r M' hr => ?_)
  obtain ⟨I2, J2, rfl, rfl, h2⟩ := hr
  exact lw_eq F dl_1155 rfl (hE I2 J2 h2)
theorem lw_c29 {Ω : mj_Om} {p : Program} {l : Launch} {e : Env} {s : State} {m : MethodId} {below : List Frame} {meth : Method} {c : Code} {b Ls k n t : Nat} {xs : Nat → Int32} {x5 x6 : Option Value} {I : Nat → Nat → Int32} {J : Nat → Nat → Int64} (F : lwF Ω p s m meth c b Ls xs) (ht : 6 * t + 6 ≤ Ls) (hk : lw_kn k n) (hR : Rel I) (hE : ∀ I2 J2, Rel I2 → lwG Ω p l e s m b below meth c k n 1443 (lwL t x5 x6, [], mk I2 J2)) : lwG Ω p l e s m b below meth c k n 1160 (lwL t x5 x6, [], mk I J) := by
  refine lw_run F [.aload_n 1] (pe := 1161) (S' := (lwL t x5 x6, [.ref 0], mk I J)) ⟨dl_1160, rfl⟩ rfl ?_
  refine lw_callC F (nn := 0) (as := []) (rest := []) (two_strong hR) fX11_strong rfl iX11_strong vX11_strong (by decide +kernel) l13_147 rfl dl_1161 hk (Nat.le_of_ble_eq_true rfl) (fun r M' hr => ?_)
  obtain ⟨v, I1, J1, rfl, rfl, hm⟩ := hr
  refine lw_run F [.aload_n 2] (pe := 1165) (S' := (lwL t x5 x6, [.ref 91, .int v], mk I1 J1)) ⟨dl_1164, rfl⟩ rfl ?_
  refine lw_callM F (nn := 0) (as := []) (rest := [.int v]) hm fX12_strong rfl iX12_strong vX12_strong (by decide +kernel) l13_150 rfl dl_1165 hk (Nat.le_of_ble_eq_true rfl) (fun r M' hr => ?_)
  obtain ⟨I2, J2, rfl, rfl, h2⟩ := hr
  exact lw_eq F dl_1168 rfl (hE I2 J2 h2)
theorem lw_c30 {Ω : mj_Om} {p : Program} {l : Launch} {e : Env} {s : State} {m : MethodId} {below : List Frame} {meth : Method} {c : Code} {b Ls k n t : Nat} {xs : Nat → Int32} {x5 x6 : Option Value} {I : Nat → Nat → Int32} {J : Nat → Nat → Int64} (F : lwF Ω p s m meth c b Ls xs) (ht : 6 * t + 6 ≤ Ls) (hk : lw_kn k n) (hR : Rel I) (hE : ∀ I2 J2, Rel I2 → lwG Ω p l e s m b below meth c k n 1443 (lwL t x5 x6, [], mk I2 J2)) : lwG Ω p l e s m b below meth c k n 1173 (lwL t x5 x6, [], mk I J) := by
  refine lw_run F [.aload_n 1] (pe := 1174) (S' := (lwL t x5 x6, [.ref 0], mk I J)) ⟨dl_1173, rfl⟩ rfl ?_
  refine lw_arg F (j := 1) (by decide) ht dl_1174 dl_1175 dl_1177 dl_1178 dl_1179 (Nat.le_of_ble_eq_true rfl) ?_
  refine lw_arg F (j := 2) (by decide) ht dl_1180 dl_1181 dl_1183 dl_1184 dl_1185 (Nat.le_of_ble_eq_true rfl) ?_
  refine lw_arg F (j := 3) (by decide) ht dl_1186 dl_1187 dl_1189 dl_1190 dl_1191 (Nat.le_of_ble_eq_true rfl) ?_
  refine lw_callC F (nn := 3) (as := [.int (xs (6 * t + 1)), .int (xs (6 * t + 2)), .int (xs (6 * t + 3))]) (rest := []) (two_picture (xs (6 * t + 1)) (xs (6 * t + 2)) (xs (6 * t + 3)) hR) fX11_picture rfl iX11_picture vX11_picture (by decide +kernel) l13_151 rfl dl_1192 hk (Nat.le_of_ble_eq_true rfl) (fun r M' hr => ?_)
  obtain ⟨v, I1, J1, rfl, rfl, hm⟩ := hr
  refine lw_run F [.aload_n 2] (pe := 1196) (S' := (lwL t x5 x6, [.ref 91, .int v], mk I1 J1)) ⟨dl_1195, rfl⟩ rfl ?_
  refine lw_arg F (j := 1) (by decide) ht dl_1196 dl_1197 dl_1199 dl_1200 dl_1201 (Nat.le_of_ble_eq_true rfl) ?_
  refine lw_arg F (j := 2) (by decide) ht dl_1202 dl_1203 dl_1205 dl_1206 dl_1207 (Nat.le_of_ble_eq_true rfl) ?_
  refine lw_arg F (j := 3) (by decide) ht dl_1208 dl_1209 dl_1211 dl_1212 dl_1213 (Nat.le_of_ble_eq_true rfl) ?_
  refine lw_callM F (nn := 3) (as := [.int (xs (6 * t + 1)), .int (xs (6 * t + 2)), .int (xs (6 * t + 3))]) (rest := [.int v]) hm fX12_picture rfl iX12_picture vX12_picture (by decide +kernel) l13_155 rfl dl_1214 hk (Nat.le_of_ble_eq_true rfl) (fun r M' hr => ?_)
  obtain ⟨I2, J2, rfl, rfl, h2⟩ := hr
  exact lw_eq F dl_1217 rfl (hE I2 J2 h2)
theorem lw_c31 {Ω : mj_Om} {p : Program} {l : Launch} {e : Env} {s : State} {m : MethodId} {below : List Frame} {meth : Method} {c : Code} {b Ls k n t : Nat} {xs : Nat → Int32} {x5 x6 : Option Value} {I : Nat → Nat → Int32} {J : Nat → Nat → Int64} (F : lwF Ω p s m meth c b Ls xs) (ht : 6 * t + 6 ≤ Ls) (hk : lw_kn k n) (hR : Rel I) (hE : ∀ I2 J2, Rel I2 → lwG Ω p l e s m b below meth c k n 1443 (lwL t x5 x6, [], mk I2 J2)) : lwG Ω p l e s m b below meth c k n 1222 (lwL t x5 x6, [], mk I J) := by
  refine lw_run F [.aload_n 1] (pe := 1223) (S' := (lwL t x5 x6, [.ref 0], mk I J)) ⟨dl_1222, rfl⟩ rfl ?_
  refine lw_arg F (j := 1) (by decide) ht dl_1223 dl_1224 dl_1226 dl_1227 dl_1228 (Nat.le_of_ble_eq_true rfl) ?_
  refine lw_callC F (nn := 1) (as := [.int (xs (6 * t + 1))]) (rest := []) (two_was (xs (6 * t + 1)) hR) fX11_was rfl iX11_was vX11_was (by decide +kernel) l13_156 rfl dl_1229 hk (Nat.le_of_ble_eq_true rfl) (fun r M' hr => ?_)
  obtain ⟨v, I1, J1, rfl, rfl, hm⟩ := hr
  refine lw_run F [.aload_n 2] (pe := 1233) (S' := (lwL t x5 x6, [.ref 91, .int v], mk I1 J1)) ⟨dl_1232, rfl⟩ rfl ?_
  refine lw_arg F (j := 1) (by decide) ht dl_1233 dl_1234 dl_1236 dl_1237 dl_1238 (Nat.le_of_ble_eq_true rfl) ?_
  refine lw_callM F (nn := 1) (as := [.int (xs (6 * t + 1))]) (rest := [.int v]) hm fX12_was rfl iX12_was vX12_was (by decide +kernel) l13_159 rfl dl_1239 hk (Nat.le_of_ble_eq_true rfl) (fun r M' hr => ?_)
  obtain ⟨I2, J2, rfl, rfl, h2⟩ := hr
  exact lw_eq F dl_1242 rfl (hE I2 J2 h2)
theorem lw_c32 {Ω : mj_Om} {p : Program} {l : Launch} {e : Env} {s : State} {m : MethodId} {below : List Frame} {meth : Method} {c : Code} {b Ls k n t : Nat} {xs : Nat → Int32} {x5 x6 : Option Value} {I : Nat → Nat → Int32} {J : Nat → Nat → Int64} (F : lwF Ω p s m meth c b Ls xs) (ht : 6 * t + 6 ≤ Ls) (hk : lw_kn k n) (hR : Rel I) (hE : ∀ I2 J2, Rel I2 → lwG Ω p l e s m b below meth c k n 1443 (lwL t x5 x6, [], mk I2 J2)) : lwG Ω p l e s m b below meth c k n 1247 (lwL t x5 x6, [], mk I J) := by
  refine lw_run F [.aload_n 1] (pe := 1248) (S' := (lwL t x5 x6, [.ref 0], mk I J)) ⟨dl_1247, rfl⟩ rfl ?_
  refine lw_callC F (nn := 0) (as := []) (rest := []) (two_race hR) fX11_race rfl iX11_race vX11_race (by decide +kernel) l13_160 rfl dl_1248 hk (Nat.le_of_ble_eq_true rfl) (fun r M' hr => ?_)
  obtain ⟨v, I1, J1, rfl, rfl, hm⟩ := hr
  refine lw_run F [.aload_n 2] (pe := 1252) (S' := (lwL t x5 x6, [.ref 91, .int v], mk I1 J1)) ⟨dl_1251, rfl⟩ rfl ?_
  refine lw_callM F (nn := 0) (as := []) (rest := [.int v]) hm fX12_race rfl iX12_race vX12_race (by decide +kernel) l13_163 rfl dl_1252 hk (Nat.le_of_ble_eq_true rfl) (fun r M' hr => ?_)
  obtain ⟨I2, J2, rfl, rfl, h2⟩ := hr
  exact lw_eq F dl_1255 rfl (hE I2 J2 h2)
theorem lw_c33 {Ω : mj_Om} {p : Program} {l : Launch} {e : Env} {s : State} {m : MethodId} {below : List Frame} {meth : Method} {c : Code} {b Ls k n t : Nat} {xs : Nat → Int32} {x5 x6 : Option Value} {I : Nat → Nat → Int32} {J : Nat → Nat → Int64} (F : lwF Ω p s m meth c b Ls xs) (ht : 6 * t + 6 ≤ Ls) (hk : lw_kn k n) (hR : Rel I) (hE : ∀ I2 J2, Rel I2 → lwG Ω p l e s m b below meth c k n 1443 (lwL t x5 x6, [], mk I2 J2)) : lwG Ω p l e s m b below meth c k n 1260 (lwL t x5 x6, [], mk I J) := by
  refine lw_run F [.aload_n 1] (pe := 1261) (S' := (lwL t x5 x6, [.ref 0], mk I J)) ⟨dl_1260, rfl⟩ rfl ?_
  refine lw_arg F (j := 1) (by decide) ht dl_1261 dl_1262 dl_1264 dl_1265 dl_1266 (Nat.le_of_ble_eq_true rfl) ?_
  refine lw_callC F (nn := 1) (as := [.int (xs (6 * t + 1))]) (rest := []) (two_points (xs (6 * t + 1)) hR) fX11_points rfl iX11_points vX11_points (by decide +kernel) l13_164 rfl dl_1267 hk (Nat.le_of_ble_eq_true rfl) (fun r M' hr => ?_)
  obtain ⟨v, I1, J1, rfl, rfl, hm⟩ := hr
  refine lw_run F [.aload_n 2] (pe := 1271) (S' := (lwL t x5 x6, [.ref 91, .int v], mk I1 J1)) ⟨dl_1270, rfl⟩ rfl ?_
  refine lw_arg F (j := 1) (by decide) ht dl_1271 dl_1272 dl_1274 dl_1275 dl_1276 (Nat.le_of_ble_eq_true rfl) ?_
  refine lw_callM F (nn := 1) (as := [.int (xs (6 * t + 1))]) (rest := [.int v]) hm fX12_points rfl iX12_points vX12_points (by decide +kernel) l13_167 rfl dl_1277 hk (Nat.le_of_ble_eq_true rfl) (fun r M' hr => ?_)
  obtain ⟨I2, J2, rfl, rfl, h2⟩ := hr
  exact lw_eq F dl_1280 rfl (hE I2 J2 h2)
theorem lw_c34 {Ω : mj_Om} {p : Program} {l : Launch} {e : Env} {s : State} {m : MethodId} {below : List Frame} {meth : Method} {c : Code} {b Ls k n t : Nat} {xs : Nat → Int32} {x5 x6 : Option Value} {I : Nat → Nat → Int32} {J : Nat → Nat → Int64} (F : lwF Ω p s m meth c b Ls xs) (ht : 6 * t + 6 ≤ Ls) (hk : lw_kn k n) (hR : Rel I) (hE : ∀ I2 J2, Rel I2 → lwG Ω p l e s m b below meth c k n 1443 (lwL t x5 x6, [], mk I2 J2)) : lwG Ω p l e s m b below meth c k n 1285 (lwL t x5 x6, [], mk I J) := by
  refine lw_run F [.aload_n 1] (pe := 1286) (S' := (lwL t x5 x6, [.ref 0], mk I J)) ⟨dl_1285, rfl⟩ rfl ?_
  refine lw_callC F (nn := 0) (as := []) (rest := []) (two_champion hR) fX11_champion rfl iX11_champion vX11_champion (by decide +kernel) l13_168 rfl dl_1286 hk (Nat.le_of_ble_eq_true rfl) (fun r M' hr => ?_)
  obtain ⟨v, I1, J1, rfl, rfl, hm⟩ := hr
  refine lw_run F [.aload_n 2] (pe := 1290) (S' := (lwL t x5 x6, [.ref 91, .int v], mk I1 J1)) ⟨dl_1289, rfl⟩ rfl ?_
  refine lw_callM F (nn := 0) (as := []) (rest := [.int v]) hm fX12_champion rfl iX12_champion vX12_champion (by decide +kernel) l13_171 rfl dl_1290 hk (Nat.le_of_ble_eq_true rfl) (fun r M' hr => ?_)
  obtain ⟨I2, J2, rfl, rfl, h2⟩ := hr
  exact lw_eq F dl_1293 rfl (hE I2 J2 h2)
theorem lw_c36 {Ω : mj_Om} {p : Program} {l : Launch} {e : Env} {s : State} {m : MethodId} {below : List Frame} {meth : Method} {c : Code} {b Ls k n t : Nat} {xs : Nat → Int32} {x5 x6 : Option Value} {I : Nat → Nat → Int32} {J : Nat → Nat → Int64} (F : lwF Ω p s m meth c b Ls xs) (ht : 6 * t + 6 ≤ Ls) (hk : lw_kn k n) (hR : Rel I) (hE : ∀ I2 J2, Rel I2 → lwG Ω p l e s m b below meth c k n 1443 (lwL t x5 x6, [], mk I2 J2)) : lwG Ω p l e s m b below meth c k n 1367 (lwL t x5 x6, [], mk I J) := by
  refine lw_run F [.aload_n 1] (pe := 1368) (S' := (lwL t x5 x6, [.ref 0], mk I J)) ⟨dl_1367, rfl⟩ rfl ?_
  refine lw_arg F (j := 1) (by decide) ht dl_1368 dl_1369 dl_1371 dl_1372 dl_1373 (Nat.le_of_ble_eq_true rfl) ?_
  refine lw_callC F (nn := 1) (as := [.int (xs (6 * t + 1))]) (rest := []) (two_flag (xs (6 * t + 1)) hR) fX11_flag rfl iX11_flag vX11_flag (by decide +kernel) l13_176 rfl dl_1374 hk (Nat.le_of_ble_eq_true rfl) (fun r M' hr => ?_)
  obtain ⟨v, I1, J1, rfl, rfl, hm⟩ := hr
  refine lw_run F [.aload_n 2] (pe := 1378) (S' := (lwL t x5 x6, [.ref 91, .int v], mk I1 J1)) ⟨dl_1377, rfl⟩ rfl ?_
  refine lw_arg F (j := 1) (by decide) ht dl_1378 dl_1379 dl_1381 dl_1382 dl_1383 (Nat.le_of_ble_eq_true rfl) ?_
  refine lw_callM F (nn := 1) (as := [.int (xs (6 * t + 1))]) (rest := [.int v]) hm fX12_flag rfl iX12_flag vX12_flag (by decide +kernel) l13_179 rfl dl_1384 hk (Nat.le_of_ble_eq_true rfl) (fun r M' hr => ?_)
  obtain ⟨I2, J2, rfl, rfl, h2⟩ := hr
  exact lw_eq F dl_1387 rfl (hE I2 J2 h2)
theorem lw_c37 {Ω : mj_Om} {p : Program} {l : Launch} {e : Env} {s : State} {m : MethodId} {below : List Frame} {meth : Method} {c : Code} {b Ls k n t : Nat} {xs : Nat → Int32} {x5 x6 : Option Value} {I : Nat → Nat → Int32} {J : Nat → Nat → Int64} (F : lwF Ω p s m meth c b Ls xs) (ht : 6 * t + 6 ≤ Ls) (hk : lw_kn k n) (hR : Rel I) (hE : ∀ I2 J2, Rel I2 → lwG Ω p l e s m b below meth c k n 1443 (lwL t x5 x6, [], mk I2 J2)) : lwG Ω p l e s m b below meth c k n 1392 (lwL t x5 x6, [], mk I J) := by
  refine lw_run F [.aload_n 1] (pe := 1393) (S' := (lwL t x5 x6, [.ref 0], mk I J)) ⟨dl_1392, rfl⟩ rfl ?_
  refine lw_callC F (nn := 0) (as := []) (rest := []) (two_image hR) fX11_image rfl iX11_image vX11_image (by decide +kernel) l13_180 rfl dl_1393 hk (Nat.le_of_ble_eq_true rfl) (fun r M' hr => ?_)
  obtain ⟨v, I1, J1, rfl, rfl, hm⟩ := hr
  refine lw_run F [.aload_n 2] (pe := 1397) (S' := (lwL t x5 x6, [.ref 91, .int v], mk I1 J1)) ⟨dl_1396, rfl⟩ rfl ?_
  refine lw_callM F (nn := 0) (as := []) (rest := [.int v]) hm fX12_image rfl iX12_image vX12_image (by decide +kernel) l13_183 rfl dl_1397 hk (Nat.le_of_ble_eq_true rfl) (fun r M' hr => ?_)
  obtain ⟨I2, J2, rfl, rfl, h2⟩ := hr
  exact lw_eq F dl_1400 rfl (hE I2 J2 h2)
theorem lw_c38 {Ω : mj_Om} {p : Program} {l : Launch} {e : Env} {s : State} {m : MethodId} {below : List Frame} {meth : Method} {c : Code} {b Ls k n t : Nat} {xs : Nat → Int32} {x5 x6 : Option Value} {I : Nat → Nat → Int32} {J : Nat → Nat → Int64} (F : lwF Ω p s m meth c b Ls xs) (ht : 6 * t + 6 ≤ Ls) (hk : lw_kn k n) (hR : Rel I) (hE : ∀ I2 J2, Rel I2 → lwG Ω p l e s m b below meth c k n 1443 (lwL t x5 x6, [], mk I2 J2)) : lwG Ω p l e s m b below meth c k n 1405 (lwL t x5 x6, [], mk I J) := by
  refine lw_run F [.aload_n 1] (pe := 1406) (S' := (lwL t x5 x6, [.ref 0], mk I J)) ⟨dl_1405, rfl⟩ rfl ?_
  refine lw_callC F (nn := 0) (as := []) (rest := []) (two_back hR) fX11_back rfl iX11_back vX11_back (by decide +kernel) l13_184 rfl dl_1406 hk (Nat.le_of_ble_eq_true rfl) (fun r M' hr => ?_)
  obtain ⟨v, I1, J1, rfl, rfl, hm⟩ := hr
  refine lw_run F [.aload_n 2] (pe := 1410) (S' := (lwL t x5 x6, [.ref 91, .int v], mk I1 J1)) ⟨dl_1409, rfl⟩ rfl ?_
  refine lw_callM F (nn := 0) (as := []) (rest := [.int v]) hm fX12_back rfl iX12_back vX12_back (by decide +kernel) l13_187 rfl dl_1410 hk (Nat.le_of_ble_eq_true rfl) (fun r M' hr => ?_)
  obtain ⟨I2, J2, rfl, rfl, h2⟩ := hr
  exact lw_eq F dl_1413 rfl (hE I2 J2 h2)
theorem lw_c39 {Ω : mj_Om} {p : Program} {l : Launch} {e : Env} {s : State} {m : MethodId} {below : List Frame} {meth : Method} {c : Code} {b Ls k n t : Nat} {xs : Nat → Int32} {x5 x6 : Option Value} {I : Nat → Nat → Int32} {J : Nat → Nat → Int64} (F : lwF Ω p s m meth c b Ls xs) (ht : 6 * t + 6 ≤ Ls) (hk : lw_kn k n) (hR : Rel I) (hE : ∀ I2 J2, Rel I2 → lwG Ω p l e s m b below meth c k n 1443 (lwL t x5 x6, [], mk I2 J2)) : lwG Ω p l e s m b below meth c k n 1418 (lwL t x5 x6, [], mk I J) := by
  refine lw_run F [.aload_n 1] (pe := 1419) (S' := (lwL t x5 x6, [.ref 0], mk I J)) ⟨dl_1418, rfl⟩ rfl ?_
  refine lw_arg F (j := 1) (by decide) ht dl_1419 dl_1420 dl_1422 dl_1423 dl_1424 (Nat.le_of_ble_eq_true rfl) ?_
  refine lw_callC F (nn := 1) (as := [.int (xs (6 * t + 1))]) (rest := []) (two_count (xs (6 * t + 1)) hR) fX11_count rfl iX11_count vX11_count (by decide +kernel) l13_188 rfl dl_1425 hk (Nat.le_of_ble_eq_true rfl) (fun r M' hr => ?_)
  obtain ⟨v, I1, J1, rfl, rfl, hm⟩ := hr
  refine lw_run F [.aload_n 2] (pe := 1429) (S' := (lwL t x5 x6, [.ref 91, .int v], mk I1 J1)) ⟨dl_1428, rfl⟩ rfl ?_
  refine lw_arg F (j := 1) (by decide) ht dl_1429 dl_1430 dl_1432 dl_1433 dl_1434 (Nat.le_of_ble_eq_true rfl) ?_
  refine lw_callM F (nn := 1) (as := [.int (xs (6 * t + 1))]) (rest := [.int v]) hm fX12_count rfl iX12_count vX12_count (by decide +kernel) l13_191 rfl dl_1435 hk (Nat.le_of_ble_eq_true rfl) (fun r M' hr => ?_)
  obtain ⟨I2, J2, rfl, rfl, h2⟩ := hr
  exact lw_eq F dl_1438 rfl (hE I2 J2 h2)
/-- two numbers of the script as one long -/
def lwX (a : Int32) : Int64 := a.toInt64 <<< (((Int8.ofInt 32).toInt32).toInt64 &&& 63)
def lwY (a b : Int32) : Int64 := lwX a ||| (b.toInt64 &&& 4294967295)
theorem lw_c12 {Ω : mj_Om} {p : Program} {l : Launch} {e : Env} {s : State} {m : MethodId} {below : List Frame} {meth : Method} {c : Code} {b Ls k n t : Nat} {xs : Nat → Int32} {x5 x6 : Option Value} {I : Nat → Nat → Int32} {J : Nat → Nat → Int64} (F : lwF Ω p s m meth c b Ls xs) (ht : 6 * t + 6 ≤ Ls) (hk : lw_kn k n) (hR : Rel I) (hE : ∀ I2 J2, Rel I2 → lwG Ω p l e s m b below meth c k n 1443 (lwL t x5 x6, [], mk I2 J2)) : lwG Ω p l e s m b below meth c k n 643 (lwL t x5 x6, [], mk I J) := by
  refine lw_run F [.aload_n 1] (pe := 644) (S' := (lwL t x5 x6, [.ref 0], mk I J)) ⟨dl_643, rfl⟩ rfl ?_
  refine lw_arg F (j := 1) (by decide) ht dl_644 dl_645 dl_647 dl_648 dl_649 (Nat.le_of_ble_eq_true rfl) ?_
  refine lw_arg F (j := 2) (by decide) ht dl_650 dl_651 dl_653 dl_654 dl_655 (Nat.le_of_ble_eq_true rfl) ?_
  refine lw_run F [.i2l, .bipush 32, .lshl] (pe := 660) (S' := (lwL t x5 x6, [.long (lwX (xs (6 * t + 2))), .int (xs (6 * t + 1)), .ref 0], mk I J)) ⟨dl_656, dl_657, dl_659, rfl⟩ rfl ?_
  refine lw_arg F (j := 3) (by decide) ht dl_660 dl_661 dl_663 dl_664 dl_665 (Nat.le_of_ble_eq_true rfl) ?_
  refine lw_run F [.i2l, .ldc2_w 76, .land, .lor] (pe := 672) (S' := (lwL t x5 x6, [.long (lwY (xs (6 * t + 2)) (xs (6 * t + 3))), .int (xs (6 * t + 1)), .ref 0], mk I J)) ⟨dl_666, dl_667, dl_670, dl_671, rfl⟩ rfl ?_
  refine lw_callC F (nn := 2) (as := [.int (xs (6 * t + 1)), .long (lwY (xs (6 * t + 2)) (xs (6 * t + 3)))]) (rest := []) (two_blow (xs (6 * t + 1)) (lwY (xs (6 * t + 2)) (xs (6 * t + 3))) hR) fX11_blow rfl iX11_blow vX11_blow (by decide +kernel) l13_78 rfl dl_672 hk (Nat.le_of_ble_eq_true rfl) (fun r M' hr => ?_)
  obtain ⟨v, I1, J1, rfl, rfl, hm⟩ := hr
  refine lw_run F [.aload_n 2] (pe := 676) (S' := (lwL t x5 x6, [.ref 91, .int v], mk I1 J1)) ⟨dl_675, rfl⟩ rfl ?_
  refine lw_arg F (j := 1) (by decide) ht dl_676 dl_677 dl_679 dl_680 dl_681 (Nat.le_of_ble_eq_true rfl) ?_
  refine lw_arg F (j := 2) (by decide) ht dl_682 dl_683 dl_685 dl_686 dl_687 (Nat.le_of_ble_eq_true rfl) ?_
  refine lw_run F [.i2l, .bipush 32, .lshl] (pe := 692) (S' := (lwL t x5 x6, [.long (lwX (xs (6 * t + 2))), .int (xs (6 * t + 1)), .ref 91, .int v], mk I1 J1)) ⟨dl_688, dl_689, dl_691, rfl⟩ rfl ?_
  refine lw_arg F (j := 3) (by decide) ht dl_692 dl_693 dl_695 dl_696 dl_697 (Nat.le_of_ble_eq_true rfl) ?_
  refine lw_run F [.i2l, .ldc2_w 76, .land, .lor] (pe := 704) (S' := (lwL t x5 x6, [.long (lwY (xs (6 * t + 2)) (xs (6 * t + 3))), .int (xs (6 * t + 1)), .ref 91, .int v], mk I1 J1)) ⟨dl_698, dl_699, dl_702, dl_703, rfl⟩ rfl ?_
  refine lw_callM F (nn := 2) (as := [.int (xs (6 * t + 1)), .long (lwY (xs (6 * t + 2)) (xs (6 * t + 3)))]) (rest := [.int v]) hm fX12_blow rfl iX12_blow vX12_blow (by decide +kernel) l13_82 rfl dl_704 hk (Nat.le_of_ble_eq_true rfl) (fun r M' hr => ?_)
  obtain ⟨I2, J2, rfl, rfl, h2⟩ := hr
  exact lw_eq F dl_707 rfl (hE I2 J2 h2)
theorem lw_c35 {Ω : mj_Om} {p : Program} {l : Launch} {e : Env} {s : State} {m : MethodId} {below : List Frame} {meth : Method} {c : Code} {b Ls k n t : Nat} {xs : Nat → Int32} {x5 x6 : Option Value} {I : Nat → Nat → Int32} {J : Nat → Nat → Int64} (F : lwF Ω p s m meth c b Ls xs) (ht : 6 * t + 6 ≤ Ls) (hk : lw_kn k n) (hR : Rel I) (hE : ∀ I2 J2, Rel I2 → lwG Ω p l e s m b below meth c k n 1443 (lwL t x5 x6, [], mk I2 J2)) : lwG Ω p l e s m b below meth c k n 1298 (lwL t x5 x6, [], mk I J) := by
  refine lw_run F [.aload_n 1] (pe := 1299) (S' := (lwL t x5 x6, [.ref 0], mk I J)) ⟨dl_1298, rfl⟩ rfl ?_
  refine lw_arg F (j := 1) (by decide) ht dl_1299 dl_1300 dl_1302 dl_1303 dl_1304 (Nat.le_of_ble_eq_true rfl) ?_
  refine lw_arg F (j := 2) (by decide) ht dl_1305 dl_1306 dl_1308 dl_1309 dl_1310 (Nat.le_of_ble_eq_true rfl) ?_
  refine lw_run F [.i2l, .bipush 32, .lshl] (pe := 1315) (S' := (lwL t x5 x6, [.long (lwX (xs (6 * t + 2))), .int (xs (6 * t + 1)), .ref 0], mk I J)) ⟨dl_1311, dl_1312, dl_1314, rfl⟩ rfl ?_
  refine lw_arg F (j := 3) (by decide) ht dl_1315 dl_1316 dl_1318 dl_1319 dl_1320 (Nat.le_of_ble_eq_true rfl) ?_
  refine lw_run F [.i2l, .ldc2_w 76, .land, .lor] (pe := 1327) (S' := (lwL t x5 x6, [.long (lwY (xs (6 * t + 2)) (xs (6 * t + 3))), .int (xs (6 * t + 1)), .ref 0], mk I J)) ⟨dl_1321, dl_1322, dl_1325, dl_1326, rfl⟩ rfl ?_
  refine lw_callC F (nn := 2) (as := [.int (xs (6 * t + 1)), .long (lwY (xs (6 * t + 2)) (xs (6 * t + 3)))]) (rest := []) (two_season (xs (6 * t + 1)) (lwY (xs (6 * t + 2)) (xs (6 * t + 3))) hR) fX11_season rfl iX11_season vX11_season (by decide +kernel) l13_172 rfl dl_1327 hk (Nat.le_of_ble_eq_true rfl) (fun r M' hr => ?_)
  obtain ⟨v, I1, J1, rfl, rfl, hm⟩ := hr
  refine lw_run F [.aload_n 2] (pe := 1331) (S' := (lwL t x5 x6, [.ref 91, .int v], mk I1 J1)) ⟨dl_1330, rfl⟩ rfl ?_
  refine lw_arg F (j := 1) (by decide) ht dl_1331 dl_1332 dl_1334 dl_1335 dl_1336 (Nat.le_of_ble_eq_true rfl) ?_
  refine lw_arg F (j := 2) (by decide) ht dl_1337 dl_1338 dl_1340 dl_1341 dl_1342 (Nat.le_of_ble_eq_true rfl) ?_
  refine lw_run F [.i2l, .bipush 32, .lshl] (pe := 1347) (S' := (lwL t x5 x6, [.long (lwX (xs (6 * t + 2))), .int (xs (6 * t + 1)), .ref 91, .int v], mk I1 J1)) ⟨dl_1343, dl_1344, dl_1346, rfl⟩ rfl ?_
  refine lw_arg F (j := 3) (by decide) ht dl_1347 dl_1348 dl_1350 dl_1351 dl_1352 (Nat.le_of_ble_eq_true rfl) ?_
  refine lw_run F [.i2l, .ldc2_w 76, .land, .lor] (pe := 1359) (S' := (lwL t x5 x6, [.long (lwY (xs (6 * t + 2)) (xs (6 * t + 3))), .int (xs (6 * t + 1)), .ref 91, .int v], mk I1 J1)) ⟨dl_1353, dl_1354, dl_1357, dl_1358, rfl⟩ rfl ?_
  refine lw_callM F (nn := 2) (as := [.int (xs (6 * t + 1)), .long (lwY (xs (6 * t + 2)) (xs (6 * t + 3)))]) (rest := [.int v]) hm fX12_season rfl iX12_season vX12_season (by decide +kernel) l13_175 rfl dl_1359 hk (Nat.le_of_ble_eq_true rfl) (fun r M' hr => ?_)
  obtain ⟨I2, J2, rfl, rfl, h2⟩ := hr
  exact lw_eq F dl_1362 rfl (hE I2 J2 h2)
