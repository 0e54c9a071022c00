section MJT
variable {p : Program} {l : Launch} {e : Env} {R : Room} {s : State} {m : MethodId} {args : Array Value} {below : List Frame} {meth : Method} {c : Code} {cells slots : Nat} {Q : State → Prop}
variable {Ω : mj_Om} {al : Bool} {o : Nat} {ini : Bool} {cc : ByteArray} {nL pc : Nat} {ret : Option FieldType} {L : List (Option Value)} {st : List Value} {M : mj_M} {H : Heap} {locs : List Loc} {ls : Array Slot}
theorem mj_kd9 {ci k d : Nat} (h : (mj_kds ci).getD k 9 = d) (hk : k < (mj_kds ci).length) : (mj_kds ci).getD k 0 = d := by
  rw [List.getD_eq_getElem?_getD, List.getElem?_eq_getElem hk] at *
  exact h
/-- a field is written: the world behind it -/
theorem mj_put_gen (F : mj_F Ω p s m args meth c o ini cc nL ret) {idx a ci k : Nat} {v : Value} {rest : List Value} {M M' : mj_M} (hdg : decode cc pc = .ok (.putfield idx, 3)) (hH : mj_H Ω al M s H locs) (hfl : mj_fl o idx = some (ci, k)) (hsh : mj_sh M a = some (ci + 4, 0))
    (hfin : (mj_kds ci).getD k 9 ≠ 3) (hval : ∀ ty, mj_ftOk ((mj_kds ci).getD k 9) (some ty) = true → narrow ty v = v ∧ fits ty v = true) (h1 : M'.1 = M.1) (h2 : ∀ b s, b ≠ a → M.1[b]? = some s → mj_cell Ω M' b s = mj_cell Ω M b s) (h3 : k < (mj_kds ci).length → (mj_fs Ω M a ci).set k v = mj_fs Ω M' a ci)
    (kk : ∀ (H : Heap) (locs : List Loc), mj_H Ω al M' s H locs → W p l e R s m args below meth c H locs cells slots Q (F0 m (pc + 3) ls rest)) : W p l e R s m args below meth c H locs cells slots Q (F0 m pc ls (v :: .ref (mj_q Ω a) :: rest)) := by
  obtain ⟨hx, hb, hml, hown, hts, hr, hlk, hK, -⟩ := F
  obtain ⟨q, hq, hkq, hlink⟩ := mj_flP hfl
  have hC := mj_cls hq
  have he := mj_w_at (Ω := Ω) hsh
  have hkl : k < (mj_kds ci).length := by rw [hC.2.1]; exact hkq
  have hty : ∀ j, j < q.2.2 → parseFieldDescriptor (q.2.1 j).2.2.1 = some ((parseFieldDescriptor (q.2.1 j).2.2.1).getD .int) := by
    intro j hj
    have h4 := (hC.2.2.1 j hj).1
    cases hp : parseFieldDescriptor (q.2.1 j).2.2.1 with
    | some ty => rfl
    | none =>
      rw [hp] at h4
      simp only [mj_ftOk] at h4
      split at h4 <;> first | (rename_i hz; cases hz; done) | cases h4
  have h4 := (hC.2.2.1 k hkq).1
  rw [hty k hkq] at h4
  obtain ⟨v1, v2⟩ := hval _ h4
  obtain ⟨r, g1, cell, g2, g3, g4, g5⟩ := hH.1 a _ he
  cases g1.symm.trans hq
  obtain ⟨hSl, hfc, kC, hkC, hkind⟩ := hK.1 ci _ hq
  obtain ⟨cf, kf, fi, f, hi, hsl⟩ := hSl k hkq
  have hlay := hts _ (hC.1 _ (u_in_lay hkq))
  have hnf : (q.2.1 k).2.2.2 = false := by rw [(hC.2.2.1 k hkq).2.1]; exact decide_eq_false hfin
  unfold u_lay at hlay
  rw [if_neg (by rw [hnf]; decide)] at hlay
  have hap := va_apart (own := mj_own.getD o "") (Ts := mj_GW) hts hC.1 _ hty hC.2.2.2 hK hq
  have hst := (u_facts hfc hkC (u_lays hts hC.1 hkq) hi).1
  refine W.putK hx hb (f := f) ⟨hown, hts _ hlink, ⟨_, _, _, hi⟩, hst⟩ (by rw [g3]; exact u_store hfc hkC hkind hlay hi (hty k hkq) v1 v2) g2 g4 (by rw [hsl]; exact k2_hasslot (g5 k hkq)) rfl rfl hdg fun H' e1 e2 e3 => ?_
  rw [hsl] at e1 ⊢
  have hP := hH.1.set mj_D he (e := .inr (ci, (mj_fs Ω M a ci).set k v)) ⟨_, hq, t_OB.to (V := updV (vp_V (mj_fs Ω M a ci)) k v) ⟨_, e1, g3, g4, t_set g5 hap hkq v⟩ (fun j _ => vp_updV_set (by simpa [mj_fs] using hkl) v j)⟩ e3
  rw [h3 hkl] at hP
  have hw := mj_w_set (Ω := Ω) hsh h1 h2
  have hP : va_P Ω.1 vwCl ((mj_w Ω M).set a (mj_q Ω a, mj_cell Ω M' a (ci + 4, 0))) H' := hP
  rw [hw] at hP
  exact kk H' _ ⟨hP, fun h => by rw [e2, h1]; exact hH.2.1 h, hH.2.2.put e2 e3 (mj_D.2 a _ he)⟩
/-- a final field in its own constructor -/
theorem mj_putF_gen (F : mj_F Ω p s m args meth c o ini cc nL ret) {idx a ci k x : Nat} {rest : List Value} {M M' : mj_M} (hdg : decode cc pc = .ok (.putfield idx, 3)) (hH : mj_H Ω al M s H locs) (hfl : mj_fl o idx = some (ci, k)) (hsh : mj_sh M a = some (ci + 4, 0))
    (hfin : (mj_kds ci).getD k 9 = 3) (hini : ini = true) (hco : ci = o) (h1 : M'.1 = M.1) (h2 : ∀ b s, b ≠ a → M.1[b]? = some s → mj_cell Ω M' b s = mj_cell Ω M b s) (h3 : k < (mj_kds ci).length → (mj_fs Ω M a ci).set k (.ref (mj_q Ω x)) = mj_fs Ω M' a ci)
    (kk : ∀ (H : Heap) (locs : List Loc), mj_H Ω al M' s H locs → W p l e R s m args below meth c H locs cells slots Q (F0 m (pc + 3) ls rest)) : W p l e R s m args below meth c H locs cells slots Q (F0 m pc ls (.ref (mj_q Ω x) :: .ref (mj_q Ω a) :: rest)) := by
  obtain ⟨hx, hb, hml, hown, hts, hr, hlk, hK, hin, -⟩ := F
  obtain ⟨q, hq, hkq, hlink⟩ := mj_flP hfl
  have hC := mj_cls hq
  have he := mj_w_at (Ω := Ω) hsh
  have hkl : k < (mj_kds ci).length := by rw [hC.2.1]; exact hkq
  have hty : ∀ j, j < q.2.2 → parseFieldDescriptor (q.2.1 j).2.2.1 = some ((parseFieldDescriptor (q.2.1 j).2.2.1).getD .int) := by
    intro j hj
    have h4 := (hC.2.2.1 j hj).1
    cases hp : parseFieldDescriptor (q.2.1 j).2.2.1 with
    | some ty => rfl
    | none =>
      rw [hp] at h4
      simp only [mj_ftOk] at h4
      split at h4 <;> first | (rename_i hz; cases hz; done) | cases h4
  have h4 := (hC.2.2.1 k hkq).1
  rw [hty k hkq, hfin] at h4
  obtain ⟨v1, v2⟩ : narrow ((parseFieldDescriptor (q.2.1 k).2.2.1).getD .int) (.ref (mj_q Ω x)) = .ref (mj_q Ω x) ∧ fits ((parseFieldDescriptor (q.2.1 k).2.2.1).getD .int) (.ref (mj_q Ω x)) = true := by
    revert h4
    generalize (parseFieldDescriptor (q.2.1 k).2.2.1).getD .int = ty
    intro h4
    cases ty <;> first | exact ⟨rfl, rfl⟩ | (simp [mj_ftOk] at h4; done)
  obtain ⟨r, g1, cell, g2, g3, g4, g5⟩ := hH.1 a _ he
  cases g1.symm.trans hq
  obtain ⟨hSl, hfc, kC, hkC, hkind⟩ := hK.1 ci _ hq
  obtain ⟨cf, kf, fi, f, hi, hsl⟩ := hSl k hkq
  have hlay := hts _ (hC.1 _ (u_in_lay hkq))
  have hnf : (q.2.1 k).2.2.2 = true := by rw [(hC.2.2.1 k hkq).2.1]; exact decide_eq_true hfin
  unfold u_lay at hlay
  rw [if_pos hnf] at hlay
  have hap := va_apart (own := mj_own.getD o "") (Ts := mj_GW) hts hC.1 _ hty hC.2.2.2 hK hq
  have hst := (u_facts hfc hkC (u_lays hts hC.1 hkq) hi).1
  have hq1 : q.1 = mj_own.getD o "" := by
    subst hco
    have hlt : ci < 13 := (List.getElem?_eq_some_iff.mp hq).1
    have h13 : ∀ ci, ci < 13 → (vwCl[ci]?).map (fun q => q.1) = some (mj_own.getD ci "") := by decide
    have := h13 ci hlt
    rw [hq] at this
    exact Option.some.inj this
  have hcf : m.cls = cf := by
    obtain ⟨_, _, c', _, _, _, -, -, hf', -, -, -, hown2, -⟩ := Cond.laysFinal_spec hlay
    have e1 : c' = cf := by have := hi.symm.trans hf'; simp at this; exact this.1.symm
    rw [(hC.2.2.1 k hkq).2.2, hq1] at hown2
    rw [← e1]; exact Option.some.inj (hown.symm.trans hown2)
  refine W.putFinK hx hb hown (hts _ hlink) hi hst hcf (hin hini) (by rw [g3]; exact u_fits hfc hkC hkind (Or.inr hlay) hi (hty k hkq) v1 v2) g2 g4 (by rw [hsl]; exact k2_hasslot (g5 k hkq)) rfl rfl hdg fun H' e1 e2 e3 => ?_
  rw [hsl] at e1 ⊢
  have hP := hH.1.set mj_D he (e := .inr (ci, (mj_fs Ω M a ci).set k (.ref (mj_q Ω x)))) ⟨_, hq, t_OB.to (V := updV (vp_V (mj_fs Ω M a ci)) k (.ref (mj_q Ω x))) ⟨_, e1, g3, g4, t_set g5 hap hkq _⟩ (fun j _ => vp_updV_set (by simpa [mj_fs] using hkl) _ j)⟩ e3
  rw [h3 hkl] at hP
  have hw := mj_w_set (Ω := Ω) hsh h1 h2
  have hP : va_P Ω.1 vwCl ((mj_w Ω M).set a (mj_q Ω a, mj_cell Ω M' a (ci + 4, 0))) H' := hP
  rw [hw] at hP
  exact kk H' _ ⟨hP, fun h => by rw [e2, h1]; exact hH.2.1 h, hH.2.2.put e2 e3 (mj_D.2 a _ he)⟩
end MJT
