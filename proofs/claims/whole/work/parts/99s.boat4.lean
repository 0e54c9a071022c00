/-! ===== the law: boat (by program, wip/whole/p110.py) ===== -/
def cutX12_thrownT : List (Nat × List Bool) := []
set_option maxRecDepth 100000 in
set_option maxHeartbeats 4000000 in
theorem inX12_thrownT {Ω : mj_Om} {l : Launch} {d : Nat} {Φ : Option Value → mj_M → Prop} (hd : 1 ≤ d) (I : Nat → Nat → Int32) (J : Nat → Nat → Int64)
    (h : ((Φ (some (.int (I 91 0))) (mk I J)))) :
    mj_Met Ω l false mX12_thrown d 0 0 [.ref 91] (mk I J) Φ := mj_entry (by decide) rfl (fun h => (by cases h)) (Nat.le_of_ble_eq_true rfl) (mj_blk (μ := mX12_thrown) (P := pX12_thrown) (cut := cutX12_thrownT) (cs := csX12_thrown) dX12_thrown csX12_thrown_ok hd 4 0 _ h)
theorem lg_cmp_s (x : Int64) : lg_cmp x x = 0 := by
  unfold lg_cmp
  simp
set_option maxHeartbeats 4000000 in
/-- from the class's answer on -/
theorem lw_b2 {Ω : mj_Om} {p : Program} {l : Launch} {e : Env} {s : State} {m : MethodId} {below : List Frame} {meth : Method} {c : Code} {b Ls k n t : Nat} {xs : Nat → Int32} {x5 x6 : Option Value} {r v : Int32} {I : Nat → Nat → Int32} {J' : Nat → Nat → Int64} (F : lwF Ω p s m meth c b Ls xs) (ht : 6 * t + 6 ≤ Ls) (hk : lw_kn k n) (hM : mj_Met Ω l false mX12_boat 60 0 0 [.ref 91, .int (xs (6 * t + 1)), .int (xs (6 * t + 2))] (mk I J') (fun r' M' => r' = some (.int v) ∧ ∃ I2, M' = mk I2 J' ∧ I2 91 0 = r ∧ Rel I2)) (hv : r = 0 → J' 120 0 = v.toInt64) (hE : ∀ y5 y6 I2 J2, Rel I2 → lwG Ω p l e s m b below meth c k n 1443 (lwL t y5 y6, [], mk I2 J2)) : lwG Ω p l e s m b below meth c k n 381 (lwL t x5 x6, [.int r], mk I J') := by
  refine lw_run F [.istore 5, .aload_n 2] (pe := 384) (S' := (lwL t (some (.int r)) x6, [.ref 91], mk I J')) ⟨dl_381, dl_383, rfl⟩ rfl ?_
  refine lw_arg F (j := 1) (by decide) ht dl_384 dl_385 dl_387 dl_388 dl_389 (Nat.le_of_ble_eq_true rfl) ?_
  refine lw_arg F (j := 2) (by decide) ht dl_390 dl_391 dl_393 dl_394 dl_395 (Nat.le_of_ble_eq_true rfl) ?_
  refine lw_callM F (nn := 2) (as := [.int (xs (6 * t + 1)), .int (xs (6 * t + 2))]) (rest := []) hM fX12_boat rfl iX12_boat vX12_boat (by decide +kernel) l13_43 rfl dl_396 hk (Nat.le_of_ble_eq_true rfl) (fun r' M' hr => ?_)
  obtain ⟨rfl, I2, rfl, h0, h2⟩ := hr
  refine lw_run F [.istore 6, .aload_n 2] (pe := 402) (S' := (lwL t (some (.int r)) (some (.int v)), [.ref 91], mk I2 J')) ⟨dl_399, dl_401, rfl⟩ rfl ?_
  refine lw_callM F (nn := 0) (as := []) (rest := []) (Φ := fun r' M' => r' = some (.int r) ∧ M' = mk I2 J') (inX12_thrownT (Nat.le_of_ble_eq_true rfl) I2 J' ⟨by rw [h0], rfl⟩) fX12_thrown rfl iX12_thrown vX12_thrown (by decide +kernel) l13_44 rfl dl_402 hk (Nat.le_of_ble_eq_true rfl) (fun r' M' hr => ?_)
  obtain ⟨rfl, rfl⟩ := hr
  refine lw_run F [.iload 5] (pe := 407) (S' := (lwL t (some (.int r)) (some (.int v)), [.int r, .int r], mk I2 J')) ⟨dl_405, rfl⟩ rfl ?_
  refine lw_eq F (t := 412) dl_407 rfl ?_
  refine lw_run F [.iload 5] (pe := 414) (S' := (lwL t (some (.int r)) (some (.int v)), [.int r], mk I2 J')) ⟨dl_412, rfl⟩ rfl ?_
  have g429 : lwG Ω p l e s m b below meth c k n 429 (lwL t (some (.int r)) (some (.int v)), [], mk I2 J') := lw_goto F (t := 1443) dl_429 rfl (hE _ _ I2 J' h2)
  intro H locs ls hH hl
  refine lv_if_ne (tgt := 429) F.1.1 F.1.2.1 dl_414 rfl (fun _ => g429 H locs ls hH hl) (fun q => ?_)
  have q0 : r = 0 := by first | exact q | exact Classical.not_not.mp q
  have g417 : lwG Ω p l e s m b below meth c k n 417 (lwL t (some (.int r)) (some (.int v)), [], mk I2 J') := by
    refine lw_run F [.aload_n 3, .iconst 0, .laload, .iload 6, .i2l, .lcmp] (pe := 424) (S' := (lwL t (some (.int r)) (some (.int v)), [.int (lg_cmp (J' 120 0) v.toInt64)], mk I2 J')) ⟨dl_417, dl_418, dl_419, dl_420, dl_422, dl_423, rfl⟩ rfl ?_
    rw [hv q0, lg_cmp_s]
    intro H locs ls hH hl
    exact lv_if_eq (tgt := 429) F.1.1 F.1.2.1 dl_424 rfl (fun _ => g429 H locs ls hH hl) (fun q => absurd rfl q)
  exact g417 H locs ls hH hl
set_option maxHeartbeats 4000000 in
theorem lw_c4 {Ω : mj_Om} {p : Program} {l : Launch} {e : Env} {s : State} {m : MethodId} {below : List Frame} {meth : Method} {c : Code} {b Ls k n t : Nat} {xs : Nat → Int32} {x5 x6 : Option Value} {I : Nat → Nat → Int32} {J : Nat → Nat → Int64} (hl : l.stackTraces = false) (F : lwF Ω p s m meth c b Ls xs) (ht : 6 * t + 6 ≤ Ls) (hk : lw_kn (k + 1) (n + 6)) (hR : Rel I) (hE : ∀ y5 y6 I2 J2, Rel I2 → lwG Ω p l e s m b below meth c (k + 1) (n + 6) 1443 (lwL t y5 y6, [], mk I2 J2)) : lwG Ω p l e s m b below meth c k n 364 (lwL t x5 x6, [], mk I J) := by
  refine lw_run F [.aload_n 1] (pe := 365) (S' := (lwL t x5 x6, [.ref 0], mk I J)) ⟨dl_364, rfl⟩ rfl ?_
  refine lw_arg F (j := 1) (by decide) ht dl_365 dl_366 dl_368 dl_369 dl_370 (Nat.le_of_ble_eq_true rfl) ?_
  refine lw_arg F (j := 2) (by decide) ht dl_371 dl_372 dl_374 dl_375 dl_376 (Nat.le_of_ble_eq_true rfl) ?_
  refine lw_run F [.aload_n 3] (pe := 378) (S' := (lwL t x5 x6, [.ref 120, .int (xs (6 * t + 2)), .int (xs (6 * t + 1)), .ref 0], mk I J)) ⟨dl_377, rfl⟩ rfl ?_
  by_cases q : mj_badB I (xs (6 * t + 1)) (xs (6 * t + 2))
  · exact lw_help F (mj_helpX Ω l hl I J _ _ q) hk (lw_b2 F ht hk (boat_X hR q) (fun w => absurd w (by decide)) hE)
  · obtain ⟨w1, -⟩ := id hR.2.2.1
    have q' := q
    unfold mj_badB at q'
    rw [w1.1] at q'
    obtain ⟨bb, e1, e2, e3, e4⟩ := boat_in w1.2 q'
    have hC := boat_C (Ω := Ω) (l := l) (J := J) hR e2 e3 e4
    rw [← e1] at hC
    refine lw_help F (mj_helpV Ω l I J _ _ _ hC) hk (lw_b2 F ht hk (v := boR (nF I 39) (lv7 (I 27)) (VF I 39) bb (xs (6 * t + 2))) ?_ (fun _ => ul_s) hE)
    have hM := boat_M (Ω := Ω) (l := l) (J := mj_ul J 120 0 (boR (nF I 39) (lv7 (I 27)) (VF I 39) bb (xs (6 * t + 2))).toInt64) hR e2 e3 e4
    rw [← e1] at hM
    exact hM
