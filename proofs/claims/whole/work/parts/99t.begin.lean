/-! ===== the law: its start ===== -/
abbrev lwB (b1 b2 b3 b4 : Option Value) : List (Option Value) := [some (.ref 2000), b1, b2, b3, b4, none, none]
set_option maxRecDepth 100000 in
set_option maxHeartbeats 4000000 in
theorem lw_begin {Ω : mj_Om} {p : Program} {l : Launch} {e : Env} {s : State} {m : MethodId} {below : List Frame} {meth : Method} {c : Code} {b : Nat} (F : mj_F Ω p s m #[Value.ref b] meth c 13 false code 7 (some .boolean)) (h : lwG Ω p l e s m b below meth c 121 14372 23 (lwL 0 none none, [], mk I0 (fun _ _ => 0))) : mj_Wg Ω true 7 p l e room_1 s m #[Value.ref b] below meth c 0 0 (lw_Z below #[Value.ref b] s) 0 (lwB none none none none, [], MM 0 0 (fun _ _ => 0)) := by
  refine mj_new_ok (ci := 11) (q := (RX11, TX11, 18)) F dl_0 rfl (mj_gw_in (by decide +kernel)) (mj_gw_in (by decide +kernel)) (mj_gw_in (by decide +kernel)) (Nat.le_of_ble_eq_true rfl) (fun _ => rfl) (fun _ => rfl) (fun _ => rfl) (Nat.le_of_ble_eq_true rfl) (Nat.le_of_ble_eq_true rfl) ?_
  show mj_Wg _ _ _ _ _ _ _ _ _ _ _ _ _ 1 18 _ 3 ((lwB none none none none, [.ref 0], MM 1 0 (fun _ _ => 0)) : mj_S)
  refine mj_run_ok (pe := 4) (S := _) (K := fun S' => S' = ((lwB none none none none, [.ref 0, .ref 0], MM 1 0 (fun _ _ => 0)) : mj_S)) F [.dup] ⟨dl_3, rfl⟩ (show ((lwB none none none none, [.ref 0, .ref 0], MM 1 0 (fun _ _ => 0)) : mj_S) = (lwB none none none none, [.ref 0, .ref 0], MM 1 0 (fun _ _ => 0)) from rfl) (fun S' h => ?_)
  subst h
  refine mj_ctor_ok (d' := 3) (n := 0) (as := []) (a := 0) (host := "GunLineLaw") F dl_4 (ctX11_init_0 Ω l) fX11_init rfl rfl iX11_init (by decide +kernel) rfl (Or.inl (mj_gw_in (by decide +kernel))) ⟨Nat.le_of_ble_eq_true rfl, Nat.le_of_ble_eq_true rfl⟩ ⟨Nat.le_of_ble_eq_true rfl, Nat.le_of_ble_eq_true rfl⟩ (Nat.le_of_ble_eq_true rfl) (fun r M' h => ?_)
  obtain ⟨rfl, rfl⟩ := h
  show mj_Wg _ _ _ _ _ _ _ _ _ _ _ _ _ 91 4065 _ 7 ((lwB none none none none, [.ref 0], MM 91 93 (fun _ _ => 0)) : mj_S)
  refine mj_run_ok (pe := 8) (S := _) (K := fun S' => S' = ((lwB (some (.ref 0)) none none none, [], MM 91 93 (fun _ _ => 0)) : mj_S)) F [.astore_n 1] ⟨dl_7, rfl⟩ (show ((lwB (some (.ref 0)) none none none, [], MM 91 93 (fun _ _ => 0)) : mj_S) = (lwB (some (.ref 0)) none none none, [], MM 91 93 (fun _ _ => 0)) from rfl) (fun S' h => ?_)
  subst h
  refine mj_new_ok (ci := 12) (q := (RX12, TX12, 45)) F dl_8 rfl (mj_gw_in (by decide +kernel)) (mj_gw_in (by decide +kernel)) (mj_gw_in (by decide +kernel)) (Nat.le_of_ble_eq_true rfl) (fun _ => rfl) (fun _ => rfl) (fun _ => rfl) (Nat.le_of_ble_eq_true rfl) (Nat.le_of_ble_eq_true rfl) ?_
  show mj_Wg _ _ _ _ _ _ _ _ _ _ _ _ _ 92 4110 _ 11 ((lwB (some (.ref 0)) none none none, [.ref 91], MM 92 93 (fun _ _ => 0)) : mj_S)
  refine mj_run_ok (pe := 12) (S := _) (K := fun S' => S' = ((lwB (some (.ref 0)) none none none, [.ref 91, .ref 91], MM 92 93 (fun _ _ => 0)) : mj_S)) F [.dup] ⟨dl_11, rfl⟩ (show ((lwB (some (.ref 0)) none none none, [.ref 91, .ref 91], MM 92 93 (fun _ _ => 0)) : mj_S) = (lwB (some (.ref 0)) none none none, [.ref 91, .ref 91], MM 92 93 (fun _ _ => 0)) from rfl) (fun S' h => ?_)
  subst h
  refine mj_ctor_ok (d' := 1) (n := 0) (as := []) (a := 91) (host := "GunLineLaw") F dl_12 (ctX12_init_91 Ω l) fX12_init rfl rfl iX12_init (by decide +kernel) rfl (Or.inl (mj_gw_in (by decide +kernel))) ⟨Nat.le_of_ble_eq_true rfl, Nat.le_of_ble_eq_true rfl⟩ ⟨Nat.le_of_ble_eq_true rfl, Nat.le_of_ble_eq_true rfl⟩ (Nat.le_of_ble_eq_true rfl) (fun r M' h => ?_)
  obtain ⟨rfl, rfl⟩ := h
  show mj_Wg _ _ _ _ _ _ _ _ _ _ _ _ _ 120 14371 _ 15 ((lwB (some (.ref 0)) none none none, [.ref 91], MM 120 121 I0) : mj_S)
  refine mj_run_ok (pe := 17) (S := _) (K := fun S' => S' = ((lwB (some (.ref 0)) (some (.ref 91)) none none, [.int 1], MM 120 121 I0) : mj_S)) F [.astore_n 2, .iconst 1] ⟨dl_15, dl_16, rfl⟩ (show ((lwB (some (.ref 0)) (some (.ref 91)) none none, [.int 1], MM 120 121 I0) : mj_S) = (lwB (some (.ref 0)) (some (.ref 91)) none none, [.int 1], MM 120 121 I0) from rfl) (fun S' h => ?_)
  subst h
  refine mj_newa_ok (t := 2) (N := 1) F (by decide) dl_17 (mj_gw_in (by decide +kernel)) (by decide) (by decide) (by decide) (Nat.le_of_ble_eq_true rfl) (fun k => (show I0 (mS0.take 120).length k = 0 from I0_z (fun w => absurd w.1 (by decide +kernel)))) (fun _ => rfl) (Nat.le_of_ble_eq_true rfl) (Nat.le_of_ble_eq_true rfl) ?_
  show mj_Wg _ _ _ _ _ _ _ _ _ _ _ _ _ 121 14372 _ 19 ((lwB (some (.ref 0)) (some (.ref 91)) none none, [.ref 120], mk I0 (fun _ _ => 0)) : mj_S)
  refine mj_run_ok (pe := 23) (S := _) (K := fun S' => S' = ((lwB (some (.ref 0)) (some (.ref 91)) (some (.ref 120)) (some (.int 0)), [], mk I0 (fun _ _ => 0)) : mj_S)) F [.astore_n 3, .iconst 0, .istore 4] ⟨dl_19, dl_20, dl_21, rfl⟩ (show ((lwB (some (.ref 0)) (some (.ref 91)) (some (.ref 120)) (some (.int 0)), [], mk I0 (fun _ _ => 0)) : mj_S) = (lwB (some (.ref 0)) (some (.ref 91)) (some (.ref 120)) (some (.int 0)), [], mk I0 (fun _ _ => 0)) from rfl) (fun S' h => ?_)
  subst h
  intro H locs ls hH hl
  exact h H locs ls ⟨hH.1, fun q => (by cases q), hH.2.2⟩ hl
