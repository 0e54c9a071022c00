/-! ===== the law: reads of the script, calls, the end of a case ===== -/
/-- what the law's walk stands on -/
def lwF (Ω : mj_Om) (p : Program) (s : State) (m : MethodId) (meth : Method) (c : Code) (b Ls : Nat) (xs : Nat → Int32) : Prop := mj_F Ω p s m #[Value.ref b] meth c 13 false code 7 (some .boolean) ∧ Ω.2.2.2 2000 = b ∧ va_X b Ls xs s s.heap ∧ b < s.heap.size ∧ ¬ mj_A Ω b ∧ Ls ≤ 3072
def lwG (Ω : mj_Om) (p : Program) (l : Launch) (e : Env) (s : State) (m : MethodId) (b : Nat) (below : List Frame) (meth : Method) (c : Code) (k n pc : Nat) (S : mj_S) : Prop := mj_Wg Ω false 7 p l e room_1 s m #[Value.ref b] below meth c k n (lw_Z below #[Value.ref b] s) pc S
def mL_law : mj_m := (13, false, code, 7, some .boolean, yL_law)
section LAW
variable {Ω : mj_Om} {p : Program} {l : Launch} {e : Env} {s : State} {m : MethodId} {below : List Frame} {meth : Method} {c : Code} {b Ls k n pc : Nat} {xs : Nat → Int32} {L : List (Option Value)} {st : List Value} {M : mj_M}
theorem lw_v2 (F : lwF Ω p s m meth c b Ls xs) : mj_v Ω (.ref 2000) = .ref b := by
  show Value.ref (mj_q Ω 2000) = .ref b
  rw [show mj_q Ω 2000 = Ω.2.2.2 2000 from rfl, F.2.1]
theorem lw_sld (F : lwF Ω p s m meth c b Ls xs) {i : Int32} (hin : vp_in i Ls) (hdg : decode code pc = .ok (.iaload, 1)) (h : lwG Ω p l e s m b below meth c k n (pc + 1) (L, .int (xs i.toNatClampNeg) :: st, M)) : lwG Ω p l e s m b below meth c k n pc (L, .int i :: .ref 2000 :: st, M) := by
  intro H locs ls hH hl
  show W p l e room_1 s m #[Value.ref b] below meth c H locs k n _ (F0 m pc ls (.int i :: mj_v Ω (.ref 2000) :: st.map (mj_v Ω)))
  rw [lw_v2 F]
  exact va_sld F.1.1 F.1.2.1 F.2.2.1 F.2.2.2.1 F.2.2.2.2.1 hH.2.2 hin hdg (h H locs ls hH hl)
theorem lw_slen (F : lwF Ω p s m meth c b Ls xs) (hdg : decode code pc = .ok (.arraylength, 1)) (h : lwG Ω p l e s m b below meth c k n (pc + 1) (L, .int (nI Ls) :: st, M)) : lwG Ω p l e s m b below meth c k n pc (L, .ref 2000 :: st, M) := by
  intro H locs ls hH hl
  show W p l e room_1 s m #[Value.ref b] below meth c H locs k n _ (F0 m pc ls (mj_v Ω (.ref 2000) :: st.map (mj_v Ω)))
  rw [lw_v2 F]
  exact va_slen F.1.1 F.1.2.1 F.2.2.1 F.2.2.2.1 F.2.2.2.2.1 hH.2.2 hdg (h H locs ls hH hl)
theorem lw_goto (F : lwF Ω p s m meth c b Ls xs) {off : Int} {t : Nat} (hdg : decode code pc = .ok (.goto off, 3)) (ht : (pc : Int) + off = (t : Int)) (h : lwG Ω p l e s m b below meth c k n t (L, st, M)) : lwG Ω p l e s m b below meth c k n pc (L, st, M) := by
  intro H locs ls hH hl
  exact lv_goto F.1.1 F.1.2.1 hdg ht (h H locs ls hH hl)
/-- straight instructions -/
theorem lw_run (F : lwF Ω p s m meth c b Ls xs) (is : List Instr) {pe : Nat} {S S' : mj_S} (hd : mj_dec code pc is pe) (hr : mj_run 13 false 7 is S (fun S'' => S'' = S')) (h : lwG Ω p l e s m b below meth c k n pe S') : lwG Ω p l e s m b below meth c k n pc S :=
  mj_run_ok (K := fun S'' => S'' = S') F.1 is hd hr (fun S'' q => by subst q; exact h)
/-- the locals of the law at the t-th call -/
def lwL (t : Nat) (x5 x6 : Option Value) : List (Option Value) := [some (.ref 2000), some (.ref 0), some (.ref 91), some (.ref 120), some (.int (nI (6 * t))), x5, x6]
/-- a number of the script -/
theorem lw_arg (F : lwF Ω p s m meth c b Ls xs) {t j : Nat} {x5 x6 : Option Value} (hj : j < 6) (ht : 6 * t + 6 ≤ Ls) (d0 : decode code pc = .ok (.aload_n 0, 1)) (d1 : decode code (pc + 1) = .ok (.iload 4, 2)) (d3 : decode code (pc + 3) = .ok (.iconst (j : Int), 1)) (d4 : decode code (pc + 4) = .ok (.iadd, 1)) (d5 : decode code (pc + 5) = .ok (.iaload, 1)) (hst : (st.map (fun v => v.category)).sum ≤ 6) (h : lwG Ω p l e s m b below meth c k n (pc + 6) (lwL t x5 x6, .int (xs (6 * t + j)) :: st, M)) : lwG Ω p l e s m b below meth c k n pc (lwL t x5 x6, st, M) := by
  have hL := F.2.2.2.2.2
  have e1 : nI (6 * t) + Int32.ofInt (j : Int) = nI (6 * t + j) := by rw [← jn_add]; rfl
  have hr : mj_run 13 false 7 [.aload_n 0, .iload 4, .iconst (j : Int), .iadd] (lwL t x5 x6, st, M) (fun S'' => S'' = (lwL t x5 x6, .int (nI (6 * t) + Int32.ofInt (j : Int)) :: .ref 2000 :: st, M)) := rfl
  refine lw_run F [.aload_n 0, .iload 4, .iconst (j : Int), .iadd] (pe := pc + 5) ⟨d0, d1, d3, d4, rfl⟩ hr ?_
  rw [e1]
  refine lw_sld F (fun q => ?_) d5 ?_
  · rw [jn_cl (by omega)] at q
    rcases q with q | q
    · exact absurd q (nnl (b := 0) (by omega) (by omega))
    · omega
  · rw [jn_cl (by omega)]; exact h
end LAW
