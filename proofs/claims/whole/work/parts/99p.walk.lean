/-! ===== the law: its loop ===== -/
section LAW3
variable {Ω : mj_Om} {p : Program} {l : Launch} {e : Env} {s : State} {m : MethodId} {below : List Frame} {meth : Method} {c : Code} {b Ls : Nat} {xs : Nat → Int32}
theorem lw_wid {k n k' n' pc : Nat} {S : mj_S} (hk : k ≤ k') (hn : n ≤ n') (h : lwG Ω p l e s m b below meth c k' n' pc S) : lwG Ω p l e s m b below meth c k n pc S := by
  intro H locs ls hH hl
  exact W.widen hk hn (h H locs ls hH hl)
theorem lw_one (F : lwF Ω p s m meth c b Ls xs) (hΩ : Ω.2.2.1 = s.heap.size) {k n t : Nat} {x5 x6 : Option Value} {M : mj_M} (hk : lw_kn k n) : lwG Ω p l e s m b below meth c k n 1449 (lwL t x5 x6, [], M) := by
  refine lw_wid (k' := 601024) (n' := 7293034) hk.1 hk.2 ?_
  refine lw_run F [.iconst 1] (pe := 1450) (S' := (lwL t x5 x6, [.int 1], M)) ⟨dl_1449, rfl⟩ rfl ?_
  intro H locs ls hH hl
  refine va_forget (fun q hq => ?_) ?_
  · have := hH.2.2.2.2 q hq
    unfold mj_A at this
    rw [hΩ] at this
    exact this
  · exact lw_ret F.1.1 F.1.2.1 F.1.2.2.2.2.2.1 F.1.2.2.2.2.2.2.1 dl_1450
theorem lw_head (F : lwF Ω p s m meth c b Ls xs) (hΩ : Ω.2.2.1 = s.heap.size) {k n t : Nat} {x5 x6 : Option Value} {M : mj_M} (hk : lw_kn k n) (ht : 6 * t ≤ 3072) (h : 6 * t + 6 ≤ Ls → lwG Ω p l e s m b below meth c k n 33 (lwL t x5 x6, [], M)) : lwG Ω p l e s m b below meth c k n 23 (lwL t x5 x6, [], M) := by
  have hL := F.2.2.2.2.2
  refine lw_run F [.iload 4, .aload_n 0] (pe := 26) (S' := (lwL t x5 x6, [.ref 2000, .int (nI (6 * t))], M)) ⟨dl_23, dl_25, rfl⟩ rfl ?_
  refine lw_slen F dl_26 ?_
  refine lw_run F [.bipush 6, .isub] (pe := 30) (S' := (lwL t x5 x6, [.int (nI Ls - (Int8.ofInt 6).toInt32), .int (nI (6 * t))], M)) ⟨dl_27, dl_29, rfl⟩ rfl ?_
  have e6 : ((Int8.ofInt 6).toInt32).toInt = 6 := by decide
  have eL : (nI Ls).toInt = (Ls : Int) := jn_toInt (by omega)
  have eT : (nI (6 * t)).toInt = ((6 * t : Nat) : Int) := jn_toInt (by omega)
  intro H locs ls hH hl
  refine lv_icmp_gt F.1.1 F.1.2.1 dl_30 (show ((30 : Nat) : Int) + 1419 = ((1449 : Nat) : Int) from rfl) (fun q => lw_one F hΩ hk H locs ls hH hl) (fun q => h ?_ H locs ls hH hl)
  rw [Int32.lt_iff_toInt_lt, i_sub (by rw [e6, eL]; omega), e6, eL, eT] at q
  omega
theorem lw_loop (F : lwF Ω p s m meth c b Ls xs) (hΩ : Ω.2.2.1 = s.heap.size) (hB : ∀ (t k n : Nat) (x5 x6 : Option Value) (I : Nat → Nat → Int32) (J : Nat → Nat → Int64), 6 * t + 6 ≤ Ls → lw_kn (k + 1) (n + 6) → Rel I → (∀ y5 y6 I2 J2, Rel I2 → lwG Ω p l e s m b below meth c (k + 1) (n + 6) 1443 (lwL t y5 y6, [], mk I2 J2)) → lwG Ω p l e s m b below meth c k n 364 (lwL t x5 x6, [], mk I J)) : ∀ (j t k n : Nat) (x5 x6 : Option Value) (I : Nat → Nat → Int32) (J : Nat → Nat → Int64), Ls < 6 * (t + j) + 6 → 6 * t ≤ 3072 → k + j ≤ 601024 → n + 6 * j ≤ 7293034 → Rel I → lwG Ω p l e s m b below meth c k n 23 (lwL t x5 x6, [], mk I J) := by
  intro j
  induction j with
  | zero =>
    intro t k n x5 x6 I J h1 h2 h3 h4 hR
    exact lw_head F hΩ ⟨by omega, by omega⟩ h2 (fun q => by omega)
  | succ j ih =>
    intro t k n x5 x6 I J h1 h2 h3 h4 hR
    have hL := F.2.2.2.2.2
    refine lw_head F hΩ ⟨by omega, by omega⟩ h2 (fun q => ?_)
    have nx : ∀ y5 y6 I2 J2, Rel I2 → lwG Ω p l e s m b below meth c (k + 1) (n + 6) 1443 (lwL t y5 y6, [], mk I2 J2) := fun y5 y6 I2 J2 r2 => lw_end (I := I2) (J := J2) F (ih (t + 1) (k + 1) (n + 6) y5 y6 I2 J2 (by omega) (by omega) (by omega) (by omega) r2)
    exact lw_body F q ⟨by omega, by omega⟩ hR (fun I2 J2 r2 => lw_wid (by omega) (by omega) (nx x5 x6 I2 J2 r2)) (hB t k n x5 x6 I J q ⟨by omega, by omega⟩ hR nx)
end LAW3
