/-! ===== the law: its switch, its step (by program, wip/whole/p109.py) ===== -/
theorem lw_end {Ω : mj_Om} {p : Program} {l : Launch} {e : Env} {s : State} {m : MethodId} {below : List Frame} {meth : Method} {c : Code} {b Ls k n t : Nat} {xs : Nat → Int32} {x5 x6 : Option Value} {I : Nat → Nat → Int32} {J : Nat → Nat → Int64} (F : lwF Ω p s m meth c b Ls xs) {M : mj_M} (h : lwG Ω p l e s m b below meth c k n 23 (lwL (t + 1) x5 x6, [], M)) : lwG Ω p l e s m b below meth c k n 1443 (lwL t x5 x6, [], M) := by
  refine lw_run F [.iinc 4 6] (pe := 1446) (S' := (lwL (t + 1) x5 x6, [], M)) ⟨dl_1443, rfl⟩ ?_ (lw_goto F dl_1446 rfl h)
  have e1 : nI (6 * t) + Int32.ofInt 6 = nI (6 * (t + 1)) := by rw [show 6 * (t + 1) = 6 * t + 6 by omega, ← jn_add]; rfl
  have hr : mj_run 13 false 7 [.iinc 4 6] (lwL t x5 x6, [], M) (fun S'' => S'' = ([some (.ref 2000), some (.ref 0), some (.ref 91), some (.ref 120), some (.int (nI (6 * t) + Int32.ofInt 6)), x5, x6], [], M)) := rfl
  rw [e1] at hr
  exact hr
set_option maxHeartbeats 4000000 in
theorem lw_body {Ω : mj_Om} {p : Program} {l : Launch} {e : Env} {s : State} {m : MethodId} {below : List Frame} {meth : Method} {c : Code} {b Ls k n t : Nat} {xs : Nat → Int32} {x5 x6 : Option Value} {I : Nat → Nat → Int32} {J : Nat → Nat → Int64} (F : lwF Ω p s m meth c b Ls xs) (ht : 6 * t + 6 ≤ Ls) (hk : lw_kn k n) (hR : Rel I) (hE : ∀ I2 J2, Rel I2 → lwG Ω p l e s m b below meth c k n 1443 (lwL t x5 x6, [], mk I2 J2)) (hB : lwG Ω p l e s m b below meth c k n 364 (lwL t x5 x6, [], mk I J)) : lwG Ω p l e s m b below meth c k n 33 (lwL t x5 x6, [], mk I J) := by
  have hL := F.2.2.2.2.2
  refine lw_run F [.aload_n 0, .iload 4] (pe := 36) (S' := (lwL t x5 x6, [.int (nI (6 * t)), .ref 2000], mk I J)) ⟨dl_33, dl_34, rfl⟩ rfl ?_
  refine lw_sld F (fun q => ?_) dl_36 ?_
  · rw [jn_cl (by omega)] at q
    rcases q with q | q
    · exact absurd q (nnl (b := 0) (by omega) (by omega))
    · omega
  refine lw_run F [.bipush 63, .iand] (pe := 40) (S' := (lwL t x5 x6, [.int (xs (nI (6 * t)).toNatClampNeg &&& (Int8.ofInt 63).toInt32)], mk I J)) ⟨dl_37, dl_39, rfl⟩ rfl ?_
  generalize (xs (nI (6 * t)).toNatClampNeg &&& (Int8.ofInt 63).toInt32) = x
  intro H locs ls hH hl
  by_cases q : x.toInt < 0 ∨ 39 < x.toInt
  · exact lv_tableOut F.1.1 F.1.2.1 dl_40 q (show ((40 : Nat) : Int) + 1403 = ((1443 : Nat) : Int) from rfl) (hE I J hR H locs ls hH hl)
  have hx : x.toInt = 0 ∨ x.toInt = 1 ∨ x.toInt = 2 ∨ x.toInt = 3 ∨ x.toInt = 4 ∨ x.toInt = 5 ∨ x.toInt = 6 ∨ x.toInt = 7 ∨ x.toInt = 8 ∨ x.toInt = 9 ∨ x.toInt = 10 ∨ x.toInt = 11 ∨ x.toInt = 12 ∨ x.toInt = 13 ∨ x.toInt = 14 ∨ x.toInt = 15 ∨ x.toInt = 16 ∨ x.toInt = 17 ∨ x.toInt = 18 ∨ x.toInt = 19 ∨ x.toInt = 20 ∨ x.toInt = 21 ∨ x.toInt = 22 ∨ x.toInt = 23 ∨ x.toInt = 24 ∨ x.toInt = 25 ∨ x.toInt = 26 ∨ x.toInt = 27 ∨ x.toInt = 28 ∨ x.toInt = 29 ∨ x.toInt = 30 ∨ x.toInt = 31 ∨ x.toInt = 32 ∨ x.toInt = 33 ∨ x.toInt = 34 ∨ x.toInt = 35 ∨ x.toInt = 36 ∨ x.toInt = 37 ∨ x.toInt = 38 ∨ x.toInt = 39 := by omega
  rcases hx with hx | hx | hx | hx | hx | hx | hx | hx | hx | hx | hx | hx | hx | hx | hx | hx | hx | hx | hx | hx | hx | hx | hx | hx | hx | hx | hx | hx | hx | hx | hx | hx | hx | hx | hx | hx | hx | hx | hx | hx
  · exact lv_tableIn F.1.1 F.1.2.1 dl_40 (by omega) (by omega) (by rw [hx]; rfl) (show ((40 : Nat) : Int) + 176 = ((216 : Nat) : Int) from rfl) (lw_c0 F ht hk hR hE H locs ls hH hl)
  · exact lv_tableIn F.1.1 F.1.2.1 dl_40 (by omega) (by omega) (by rw [hx]; rfl) (show ((40 : Nat) : Int) + 249 = ((289 : Nat) : Int) from rfl) (lw_c1 F ht hk hR hE H locs ls hH hl)
  · exact lv_tableIn F.1.1 F.1.2.1 dl_40 (by omega) (by omega) (by rw [hx]; rfl) (show ((40 : Nat) : Int) + 274 = ((314 : Nat) : Int) from rfl) (lw_c2 F ht hk hR hE H locs ls hH hl)
  · exact lv_tableIn F.1.1 F.1.2.1 dl_40 (by omega) (by omega) (by rw [hx]; rfl) (show ((40 : Nat) : Int) + 299 = ((339 : Nat) : Int) from rfl) (lw_c3 F ht hk hR hE H locs ls hH hl)
  · exact lv_tableIn F.1.1 F.1.2.1 dl_40 (by omega) (by omega) (by rw [hx]; rfl) (show ((40 : Nat) : Int) + 324 = ((364 : Nat) : Int) from rfl) (hB H locs ls hH hl)
  · exact lv_tableIn F.1.1 F.1.2.1 dl_40 (by omega) (by omega) (by rw [hx]; rfl) (show ((40 : Nat) : Int) + 392 = ((432 : Nat) : Int) from rfl) (lw_c5 F ht hk hR hE H locs ls hH hl)
  · exact lv_tableIn F.1.1 F.1.2.1 dl_40 (by omega) (by omega) (by rw [hx]; rfl) (show ((40 : Nat) : Int) + 417 = ((457 : Nat) : Int) from rfl) (lw_c6 F ht hk hR hE H locs ls hH hl)
  · exact lv_tableIn F.1.1 F.1.2.1 dl_40 (by omega) (by omega) (by rw [hx]; rfl) (show ((40 : Nat) : Int) + 454 = ((494 : Nat) : Int) from rfl) (lw_c7 F ht hk hR hE H locs ls hH hl)
  · exact lv_tableIn F.1.1 F.1.2.1 dl_40 (by omega) (by omega) (by rw [hx]; rfl) (show ((40 : Nat) : Int) + 479 = ((519 : Nat) : Int) from rfl) (lw_c8 F ht hk hR hE H locs ls hH hl)
  · exact lv_tableIn F.1.1 F.1.2.1 dl_40 (by omega) (by omega) (by rw [hx]; rfl) (show ((40 : Nat) : Int) + 516 = ((556 : Nat) : Int) from rfl) (lw_c9 F ht hk hR hE H locs ls hH hl)
  · exact lv_tableIn F.1.1 F.1.2.1 dl_40 (by omega) (by omega) (by rw [hx]; rfl) (show ((40 : Nat) : Int) + 553 = ((593 : Nat) : Int) from rfl) (lw_c10 F ht hk hR hE H locs ls hH hl)
  · exact lv_tableIn F.1.1 F.1.2.1 dl_40 (by omega) (by omega) (by rw [hx]; rfl) (show ((40 : Nat) : Int) + 578 = ((618 : Nat) : Int) from rfl) (lw_c11 F ht hk hR hE H locs ls hH hl)
  · exact lv_tableIn F.1.1 F.1.2.1 dl_40 (by omega) (by omega) (by rw [hx]; rfl) (show ((40 : Nat) : Int) + 603 = ((643 : Nat) : Int) from rfl) (lw_c12 F ht hk hR hE H locs ls hH hl)
  · exact lv_tableIn F.1.1 F.1.2.1 dl_40 (by omega) (by omega) (by rw [hx]; rfl) (show ((40 : Nat) : Int) + 672 = ((712 : Nat) : Int) from rfl) (lw_c13 F ht hk hR hE H locs ls hH hl)
  · exact lv_tableIn F.1.1 F.1.2.1 dl_40 (by omega) (by omega) (by rw [hx]; rfl) (show ((40 : Nat) : Int) + 685 = ((725 : Nat) : Int) from rfl) (lw_c14 F ht hk hR hE H locs ls hH hl)
  · exact lv_tableIn F.1.1 F.1.2.1 dl_40 (by omega) (by omega) (by rw [hx]; rfl) (show ((40 : Nat) : Int) + 722 = ((762 : Nat) : Int) from rfl) (lw_c15 F ht hk hR hE H locs ls hH hl)
  · exact lv_tableIn F.1.1 F.1.2.1 dl_40 (by omega) (by omega) (by rw [hx]; rfl) (show ((40 : Nat) : Int) + 759 = ((799 : Nat) : Int) from rfl) (lw_c16 F ht hk hR hE H locs ls hH hl)
  · exact lv_tableIn F.1.1 F.1.2.1 dl_40 (by omega) (by omega) (by rw [hx]; rfl) (show ((40 : Nat) : Int) + 796 = ((836 : Nat) : Int) from rfl) (lw_c17 F ht hk hR hE H locs ls hH hl)
  · exact lv_tableIn F.1.1 F.1.2.1 dl_40 (by omega) (by omega) (by rw [hx]; rfl) (show ((40 : Nat) : Int) + 833 = ((873 : Nat) : Int) from rfl) (lw_c18 F ht hk hR hE H locs ls hH hl)
  · exact lv_tableIn F.1.1 F.1.2.1 dl_40 (by omega) (by omega) (by rw [hx]; rfl) (show ((40 : Nat) : Int) + 870 = ((910 : Nat) : Int) from rfl) (lw_c19 F ht hk hR hE H locs ls hH hl)
  · exact lv_tableIn F.1.1 F.1.2.1 dl_40 (by omega) (by omega) (by rw [hx]; rfl) (show ((40 : Nat) : Int) + 883 = ((923 : Nat) : Int) from rfl) (lw_c20 F ht hk hR hE H locs ls hH hl)
  · exact lv_tableIn F.1.1 F.1.2.1 dl_40 (by omega) (by omega) (by rw [hx]; rfl) (show ((40 : Nat) : Int) + 908 = ((948 : Nat) : Int) from rfl) (lw_c21 F ht hk hR hE H locs ls hH hl)
  · exact lv_tableIn F.1.1 F.1.2.1 dl_40 (by omega) (by omega) (by rw [hx]; rfl) (show ((40 : Nat) : Int) + 933 = ((973 : Nat) : Int) from rfl) (lw_c22 F ht hk hR hE H locs ls hH hl)
  · exact lv_tableIn F.1.1 F.1.2.1 dl_40 (by omega) (by omega) (by rw [hx]; rfl) (show ((40 : Nat) : Int) + 958 = ((998 : Nat) : Int) from rfl) (lw_c23 F ht hk hR hE H locs ls hH hl)
  · exact lv_tableIn F.1.1 F.1.2.1 dl_40 (by omega) (by omega) (by rw [hx]; rfl) (show ((40 : Nat) : Int) + 983 = ((1023 : Nat) : Int) from rfl) (lw_c24 F ht hk hR hE H locs ls hH hl)
  · exact lv_tableIn F.1.1 F.1.2.1 dl_40 (by omega) (by omega) (by rw [hx]; rfl) (show ((40 : Nat) : Int) + 1008 = ((1048 : Nat) : Int) from rfl) (lw_c25 F ht hk hR hE H locs ls hH hl)
  · exact lv_tableIn F.1.1 F.1.2.1 dl_40 (by omega) (by omega) (by rw [hx]; rfl) (show ((40 : Nat) : Int) + 1033 = ((1073 : Nat) : Int) from rfl) (lw_c26 F ht hk hR hE H locs ls hH hl)
  · exact lv_tableIn F.1.1 F.1.2.1 dl_40 (by omega) (by omega) (by rw [hx]; rfl) (show ((40 : Nat) : Int) + 1058 = ((1098 : Nat) : Int) from rfl) (lw_c27 F ht hk hR hE H locs ls hH hl)
  · exact lv_tableIn F.1.1 F.1.2.1 dl_40 (by omega) (by omega) (by rw [hx]; rfl) (show ((40 : Nat) : Int) + 1095 = ((1135 : Nat) : Int) from rfl) (lw_c28 F ht hk hR hE H locs ls hH hl)
  · exact lv_tableIn F.1.1 F.1.2.1 dl_40 (by omega) (by omega) (by rw [hx]; rfl) (show ((40 : Nat) : Int) + 1120 = ((1160 : Nat) : Int) from rfl) (lw_c29 F ht hk hR hE H locs ls hH hl)
  · exact lv_tableIn F.1.1 F.1.2.1 dl_40 (by omega) (by omega) (by rw [hx]; rfl) (show ((40 : Nat) : Int) + 1133 = ((1173 : Nat) : Int) from rfl) (lw_c30 F ht hk hR hE H locs ls hH hl)
  · exact lv_tableIn F.1.1 F.1.2.1 dl_40 (by omega) (by omega) (by rw [hx]; rfl) (show ((40 : Nat) : Int) + 1182 = ((1222 : Nat) : Int) from rfl) (lw_c31 F ht hk hR hE H locs ls hH hl)
  · exact lv_tableIn F.1.1 F.1.2.1 dl_40 (by omega) (by omega) (by rw [hx]; rfl) (show ((40 : Nat) : Int) + 1207 = ((1247 : Nat) : Int) from rfl) (lw_c32 F ht hk hR hE H locs ls hH hl)
  · exact lv_tableIn F.1.1 F.1.2.1 dl_40 (by omega) (by omega) (by rw [hx]; rfl) (show ((40 : Nat) : Int) + 1220 = ((1260 : Nat) : Int) from rfl) (lw_c33 F ht hk hR hE H locs ls hH hl)
  · exact lv_tableIn F.1.1 F.1.2.1 dl_40 (by omega) (by omega) (by rw [hx]; rfl) (show ((40 : Nat) : Int) + 1245 = ((1285 : Nat) : Int) from rfl) (lw_c34 F ht hk hR hE H locs ls hH hl)
  · exact lv_tableIn F.1.1 F.1.2.1 dl_40 (by omega) (by omega) (by rw [hx]; rfl) (show ((40 : Nat) : Int) + 1258 = ((1298 : Nat) : Int) from rfl) (lw_c35 F ht hk hR hE H locs ls hH hl)
  · exact lv_tableIn F.1.1 F.1.2.1 dl_40 (by omega) (by omega) (by rw [hx]; rfl) (show ((40 : Nat) : Int) + 1327 = ((1367 : Nat) : Int) from rfl) (lw_c36 F ht hk hR hE H locs ls hH hl)
  · exact lv_tableIn F.1.1 F.1.2.1 dl_40 (by omega) (by omega) (by rw [hx]; rfl) (show ((40 : Nat) : Int) + 1352 = ((1392 : Nat) : Int) from rfl) (lw_c37 F ht hk hR hE H locs ls hH hl)
  · exact lv_tableIn F.1.1 F.1.2.1 dl_40 (by omega) (by omega) (by rw [hx]; rfl) (show ((40 : Nat) : Int) + 1365 = ((1405 : Nat) : Int) from rfl) (lw_c38 F ht hk hR hE H locs ls hH hl)
  · exact lv_tableIn F.1.1 F.1.2.1 dl_40 (by omega) (by omega) (by rw [hx]; rfl) (show ((40 : Nat) : Int) + 1378 = ((1418 : Nat) : Int) from rfl) (lw_c39 F ht hk hR hE H locs ls hH hl)
