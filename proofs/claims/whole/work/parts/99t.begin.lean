/-! ===== the law: its start ===== -/
abbrev lwB (b1 b2 b3 b4 : Option Value) : List (Option Value) := [some (.ref 2000), b1, b2, b3, b4, none, none]
theorem mS0_120 : (mS0.take 120).length = 120 := by decide +kernel
theorem mS0_121 : mS0.take 120 ++ [(2, 1)] = mS0 := by decide +kernel
theorem lk_no : ∀ (A : List ((Nat × Nat) × Nat)) (k : Nat × Nat), (∀ e ∈ A, e.1 ≠ k) → A.lookup k = none
  | [], _, _ => rfl
  | (a, b) :: A, k, h => by
    have q : (k == a) = false := beq_eq_false_iff_ne.mpr (fun q => h (a, b) List.mem_cons_self q.symm)
    simp only [List.lookup_cons, q]
    exact lk_no A k (fun e he => h e (List.mem_cons_of_mem _ he))
theorem lk_eq {A B : List ((Nat × Nat) × Nat)} (h1 : A.all (fun e => decide (B.lookup e.1 = A.lookup e.1)) = true) (h2 : B.all (fun e => decide (A.lookup e.1 = B.lookup e.1)) = true) (k : Nat × Nat) : A.lookup k = B.lookup k := by
  by_cases hA : ∃ e ∈ A, e.1 = k
  · obtain ⟨e, he, rfl⟩ := hA
    exact (of_decide_eq_true (List.all_eq_true.mp h1 e he)).symm
  · by_cases hB : ∃ e ∈ B, e.1 = k
    · obtain ⟨e, he, rfl⟩ := hB
      exact of_decide_eq_true (List.all_eq_true.mp h2 e he)
    · rw [lk_no A k (fun e he q => hA ⟨e, he, q⟩), lk_no B k (fun e he q => hB ⟨e, he, q⟩)]
theorem mR_a1 : mR1.all (fun e => decide (mR0.lookup e.1 = mR1.lookup e.1)) = true := by decide +kernel
theorem mR_a2 : mR0.all (fun e => decide (mR1.lookup e.1 = mR0.lookup e.1)) = true := by decide +kernel
theorem mw_R {Ω : mj_Om} {I : Nat → Nat → Int32} {J : Nat → Nat → Int64} : mj_w Ω (mS0, mR1, I, J) = mj_w Ω (mk I J) := by
  unfold mj_w
  refine congrArg (fun f => List.mapIdx f mS0) ?_
  funext c sh
  exact congrArg (fun z => (Ω.2.2.1 + c, z)) (mj_cell_cong rfl rfl (fun k => lk_eq mR_a1 mR_a2 (c, k)))
theorem lw_turn {Ω : mj_Om} {al : Bool} {nL : Nat} {p : Program} {l : Launch} {e : Env} {R : Room} {s : State} {m : MethodId} {args : Array Value} {below : List Frame} {meth : Method} {c : Code} {k n : Nat} {Q : State → Prop} {pc : Nat} {L : List (Option Value)} {st : List Value} {I : Nat → Nat → Int32} {J : Nat → Nat → Int64} (h : mj_Wg Ω al nL p l e R s m args below meth c k n Q pc (L, st, mk I J)) : mj_Wg Ω al nL p l e R s m args below meth c k n Q pc (L, st, mS0, mR1, I, J) := by
  intro H locs ls hH hl
  have hH1 : va_P Ω.1 vwCl (mj_w Ω (mS0, mR1, I, J)) H := hH.1
  rw [mw_R] at hH1
  exact h H locs ls ⟨hH1, hH.2.1, hH.2.2⟩ hl
set_option maxHeartbeats 4000000 in
theorem lw_beg2 {Ω : mj_Om} {p : Program} {l : Launch} {e : Env} {s : State} {m : MethodId} {below : List Frame} {meth : Method} {c : Code} {b : Nat} (F : mj_F Ω p s m #[Value.ref b] meth c 13 false code 7 (some .boolean)) (h : lwG Ω p l e s m b below meth c 121 14372 23 (lwL 0 none none, [], mk I0 (fun _ _ => 0))) : mj_Wg Ω true 7 p l e room_1 s m #[Value.ref b] below meth c 121 14372 (lw_Z below #[Value.ref b] s) 19 (lwB (some (.ref 0)) (some (.ref 91)) none none, [.ref 120], mk I0 (fun _ _ => 0)) := by
  refine mj_run_ok (pe := 23) (S := _) (K := fun S' => S' = ((lwB (some (.ref 0)) (some (.ref 91)) (some (.ref 120)) (some (.int 0)), [], mk I0 (fun _ _ => 0)) : mj_S)) F [.astore_n 3, .iconst 0, .istore 4] ⟨dl_19, dl_20, dl_21, rfl⟩ (show ((lwB (some (.ref 0)) (some (.ref 91)) (some (.ref 120)) (some (.int 0)), [], mk I0 (fun _ _ => 0)) : mj_S) = (lwB (some (.ref 0)) (some (.ref 91)) (some (.ref 120)) (some (.int 0)), [], mk I0 (fun _ _ => 0)) from rfl) (fun S' h => ?_)
  subst h
  intro H locs ls hH hl
  exact h H locs ls ⟨hH.1, fun q => (by cases q), hH.2.2⟩ hl
theorem lw_beg1 {Ω : mj_Om} {p : Program} {l : Launch} {e : Env} {s : State} {m : MethodId} {below : List Frame} {meth : Method} {c : Code} {b : Nat} (F : mj_F Ω p s m #[Value.ref b] meth c 13 false code 7 (some .boolean)) (h : lwG Ω p l e s m b below meth c 121 14372 23 (lwL 0 none none, [], mk I0 (fun _ _ => 0))) (M : mj_M) (hM : M = MM 120 121 I0) : mj_Wg Ω true 7 p l e room_1 s m #[Value.ref b] below meth c 120 14371 (lw_Z below #[Value.ref b] s) 17 (lwB (some (.ref 0)) (some (.ref 91)) none none, [.int 1], M) := by
  have e1 : M.1.length = 120 := by rw [hM]; exact mS0_120
  have e2 : M.1 ++ [(2, 1)] = mS0 := by rw [hM]; exact mS0_121
  have e3 : M.2 = (mR1, I0, fun _ _ => 0) := by rw [hM]; rfl
  refine mj_newa_ok (t := 2) (N := 1) F (by decide) dl_17 (mj_gw_in (by decide +kernel)) (by decide) (by decide) (by decide) (by rw [e1]; decide) (fun k => by rw [e1, e3]; exact I0_z (c := 120) (k := k) (by omega)) (fun k => by rw [e3]) (Nat.le_of_ble_eq_true rfl) (Nat.le_of_ble_eq_true rfl) ?_
  rw [e1, e2, e3]
  exact lw_turn (lw_beg2 F h)
set_option maxHeartbeats 4000000 in
theorem lw_begin {Ω : mj_Om} {p : Program} {l : Launch} {e : Env} {s : State} {m : MethodId} {below : List Frame} {meth : Method} {c : Code} {b : Nat} (F : mj_F Ω p s m #[Value.ref b] meth c 13 false code 7 (some .boolean)) (h : lwG Ω p l e s m b below meth c 121 14372 23 (lwL 0 none none, [], mk I0 (fun _ _ => 0))) : mj_Wg Ω true 7 p l e room_1 s m #[Value.ref b] below meth c 0 0 (lw_Z below #[Value.ref b] s) 0 (lwB none none none none, [], MM 0 0 (fun _ _ => 0)) := by
  refine mj_new_ok (ci := 11) (q := (RX11, TX11, 18)) F dl_0 rfl (mj_gw_in (by decide +kernel)) (mj_gw_in (by decide +kernel)) (mj_gw_in (by decide +kernel)) (Nat.le_of_ble_eq_true rfl) (fun _ => rfl) (fun _ => rfl) (fun _ => rfl) (Nat.le_of_ble_eq_true rfl) (Nat.le_of_ble_eq_true rfl) ?_
  show mj_Wg _ _ _ _ _ _ _ _ _ _ _ _ _ 1 18 _ 3 ((lwB none none none none, [.ref 0], MM 1 0 (fun _ _ => 0)) : mj_S)
  refine mj_run_ok (pe := 4) (S := _) (K := fun S' => S' = ((lwB none none none none, [.ref 0, .ref 0], MM 1 0 (fun _ _ => 0)) : mj_S)) F [.dup] ⟨dl_3, rfl⟩ (show ((lwB none none none none, [.ref 0, .ref 0], MM 1 0 (fun _ _ => 0)) : mj_S) = (lwB none none none none, [.ref 0, .ref 0], MM 1 0 (fun _ _ => 0)) from rfl) (fun S' h => ?_)
  subst h
  refine mj_ctor_ok (d' := 3) (n := 0) (as := []) (a := 0) (host := "GunLineLaw") F dl_4 (ctX11_init_0 Ω l) fX11_init rfl rfl iX11_init (by decide +kernel) rfl (Or.inl (mj_gw_in (by decide +kernel))) ⟨Nat.le_of_ble_eq_true rfl, Nat.le_of_ble_eq_true rfl⟩ ⟨Nat.le_of_ble_eq_true rfl, Nat.le_of_ble_eq_true rfl⟩ (Nat.le_of_ble_eq_true rfl) (fun r M' h => ?_)
  obtain ⟨rfl, rfl⟩ := h
  show mj_Wg _ _ _ _ _ _ _ _ _ _ _ _ _ 91 4065 _ 7 ((lwB none none none none, [.ref 0], MM 91 93 (fun _ _ => 0)) : mj_S)
  refine mj_run_ok (pe := 8) (S := _) (K := fun S' => S' = ((lwB (some (.ref 0)) none none none, [], MM 91 93 (fun _ _ => 0)) : mj_S)) F [.astore_n 1] ⟨dl_7, rfl⟩ (show ((lwB (some (.ref 0)) none none none, [], MM 91 93 (fun _ _ => 0)) : mj_S) = (lwB (some (.ref 0)) none none none, [], MM 91 93 (fun _ _ => 0)) from rfl) (fun S' h => ?_)
  subst h
  refine mj_new_ok (ci := 12) (q := (RX12, TX12, 45)) F dl_8 rfl (mj_gw_in (by decide +kernel)) (mj_gw_in (by decide +kernel)) (mj_gw_in (by decide +kernel)) (Nat.le_of_ble_eq_true rfl) (fun _ => rfl) (fun _ => rfl) (fun _ => rfl) (Nat.le_of_ble_eq_true rfl) (Nat.le_of_ble_eq_true rfl) ?_
  show mj_Wg _ _ _ _ _ _ _ _ _ _ _ _ _ 92 4110 _ 11 ((lwB (some (.ref 0)) none none none, [.ref 91], MM 92 93 (fun _ _ => 0)) : mj_S)
  refine mj_run_ok (pe := 12) (S := _) (K := fun S' => S' = ((lwB (some (.ref 0)) none none none, [.ref 91, .ref 91], MM 92 93 (fun _ _ => 0)) : mj_S)) F [.dup] ⟨dl_11, rfl⟩ (show ((lwB (some (.ref 0)) none none none, [.ref 91, .ref 91], MM 92 93 (fun _ _ => 0)) : mj_S) = (lwB (some (.ref 0)) none none none, [.ref 91, .ref 91], MM 92 93 (fun _ _ => 0)) from rfl) (fun S' h => ?_)
  subst h
  refine mj_ctor_ok (d' := 1) (n := 0) (as := []) (a := 91) (host := "GunLineLaw") F dl_12 (ctX12_init_91 Ω l) fX12_init rfl rfl iX12_init (by decide +kernel) rfl (Or.inl (mj_gw_in (by decide +kernel))) ⟨Nat.le_of_ble_eq_true rfl, Nat.le_of_ble_eq_true rfl⟩ ⟨Nat.le_of_ble_eq_true rfl, Nat.le_of_ble_eq_true rfl⟩ (Nat.le_of_ble_eq_true rfl) (fun r M' h => ?_)
  obtain ⟨rfl, rfl⟩ := h
  show mj_Wg _ _ _ _ _ _ _ _ _ _ _ _ _ 120 14371 _ 15 ((lwB (some (.ref 0)) none none none, [.ref 91], MM 120 121 I0) : mj_S)
  refine mj_run_ok (pe := 17) (S := _) (K := fun S' => S' = ((lwB (some (.ref 0)) (some (.ref 91)) none none, [.int 1], MM 120 121 I0) : mj_S)) F [.astore_n 2, .iconst 1] ⟨dl_15, dl_16, rfl⟩ (show ((lwB (some (.ref 0)) (some (.ref 91)) none none, [.int 1], MM 120 121 I0) : mj_S) = (lwB (some (.ref 0)) (some (.ref 91)) none none, [.int 1], MM 120 121 I0) from rfl) (fun S' h => ?_)
  subst h
  exact lw_beg1 F h _ rfl
