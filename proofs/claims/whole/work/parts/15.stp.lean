section MJU
variable {p : Program} {l : Launch} {e : Env} {R : Room} {s : State} {m : MethodId} {args : Array Value} {below : List Frame} {meth : Method} {c : Code} {cells slots : Nat} {Q : State → Prop}
variable {Ω : mj_Om} {al : Bool} {o : Nat} {ini : Bool} {cc : ByteArray} {nL pc : Nat} {ret : Option FieldType} {L : List (Option Value)} {st : List Value} {M : mj_M} {H : Heap} {locs : List Loc} {ls : Array Slot}
theorem mj_put_ok (F : mj_F Ω p s m args meth c o ini cc nL ret) {idx : Nat} {S : mj_S} {K : mj_S → Prop} (hdg : decode cc pc = .ok (.putfield idx, 3)) (h : mj_put o idx ini S K) (hk : ∀ S', K S' → mj_Wg Ω al nL p l e R s m args below meth c cells slots Q (pc + 3) S') : mj_Wg Ω al nL p l e R s m args below meth c cells slots Q pc S := by
  obtain ⟨L, st, M⟩ := S
  intro H locs ls hH hl
  simp only [mj_put] at h
  split at h
  · rename_i x a st' ci k hfl
    split at h
    · rename_i hd
      obtain ⟨hsh, hkd, hini, hco⟩ := of_decide_eq_true hd
      refine mj_putF_gen (M := M) (M' := (M.1, ((a, k), x) :: M.2.1, M.2.2)) F hdg hH hfl hsh hkd hini hco rfl (fun b s hb _ => mj_cell_cong rfl rfl (fun j => ?_)) (fun hkl => mj_fs_set hkl ?_ (fun j kd hj => ?_)) (fun H locs hH => hk _ h H locs ls hH hl)
      · have : ((b, j) == (a, k)) = false := by simp [hb]
        simp only [mj_rf, List.lookup_cons, this]
      · rw [mj_kd9 hkd hkl]
        simp [mj_fv, mj_rf, mj_rv, mj_v]
      · unfold mj_fv
        have : ((a, j) == (a, k)) = false := by simp [hj]
        simp only [mj_rf, List.lookup_cons, this]
    · exact h.elim
  · rename_i x a st' ci k hfl
    split at h
    · rename_i hd hkd
      have hsh := of_decide_eq_true hd
      refine mj_put_gen (M := M) (M' := (M.1, M.2.1, mj_ui M.2.2.1 a k x, M.2.2.2)) (v := .int x) F hdg hH hfl hsh (by rw [hkd]; decide) (fun ty hty => ?_) rfl (fun b s hb _ => mj_cell_cong (mj_ui_ne hb) rfl (fun j => rfl)) (fun hkl => mj_fs_set hkl ?_ (fun j kd hj => ?_)) (fun H locs hH => hk _ h H locs ls hH hl)
      · rw [hkd] at hty
        cases ty <;> first | exact ⟨rfl, rfl⟩ | (simp [mj_ftOk] at hty; done)
      · rw [mj_kd9 hkd hkl]
        simp [mj_fv, mj_v, mj_ui]
      · unfold mj_fv
        simp [mj_ui, hj, mj_rf]
    · rename_i hd hkd
      obtain ⟨h01, h⟩ := mj_gd1 h
      have hsh := of_decide_eq_true hd
      refine mj_put_gen (M := M) (M' := (M.1, M.2.1, mj_ui M.2.2.1 a k x, M.2.2.2)) (v := .int x) F hdg hH hfl hsh (by rw [hkd]; decide) (fun ty hty => ?_) rfl (fun b s hb _ => mj_cell_cong (mj_ui_ne hb) rfl (fun j => rfl)) (fun hkl => mj_fs_set hkl ?_ (fun j kd hj => ?_)) (fun H locs hH => hk _ h H locs ls hH hl)
      · rw [hkd] at hty
        cases ty <;> first | (rcases h01 with rfl | rfl <;> exact ⟨by decide, by decide⟩) | (simp [mj_ftOk] at hty; done)
      · rw [mj_kd9 hkd hkl]
        simp [mj_fv, mj_v, mj_ui]
      · unfold mj_fv
        simp [mj_ui, hj, mj_rf]
    · exact h.elim
  · rename_i x a st' ci k hfl
    split at h
    · rename_i hd hkd
      have hsh := of_decide_eq_true hd
      refine mj_put_gen (M := M) (M' := (M.1, M.2.1, M.2.2.1, mj_ul M.2.2.2 a k x)) (v := .long x) F hdg hH hfl hsh (by rw [hkd]; decide) (fun ty hty => ?_) rfl (fun b s hb _ => mj_cell_cong rfl (mj_ul_ne hb) (fun j => rfl)) (fun hkl => mj_fs_set hkl ?_ (fun j kd hj => ?_)) (fun H locs hH => hk _ h H locs ls hH hl)
      · rw [hkd] at hty
        cases ty <;> first | exact ⟨rfl, rfl⟩ | (simp [mj_ftOk] at hty; done)
      · rw [mj_kd9 hkd hkl]
        simp [mj_fv, mj_v, mj_ul]
      · unfold mj_fv
        simp [mj_ul, hj, mj_rf]
    · exact h.elim
  · exact h.elim
/-- an int is stored in an array -/
theorem mj_ias_ok (F : mj_F Ω p s m args meth c o ini cc nL ret) {S : mj_S} {K : mj_S → Prop} (hdg : decode cc pc = .ok (.iastore, 1)) (h : mj_ias S K) (hk : ∀ S', K S' → mj_Wg Ω al nL p l e R s m args below meth c cells slots Q (pc + 1) S') : mj_Wg Ω al nL p l e R s m args below meth c cells slots Q pc S := by
  obtain ⟨L, st, M⟩ := S
  intro H locs ls hH hl
  obtain ⟨hx, hb, hml, hown, hts, hr, hlk, hK, -⟩ := F
  simp only [mj_ias] at h
  split at h
  · rename_i x i a st'
    split at h
    · rename_i n hsh
      obtain ⟨hin, h⟩ := mj_gdI h
      have he := mj_w_at (Ω := Ω) hsh
      refine W.iast hx hb (hH.1 a _ he) ((hK.2 0 _ rfl).1 n (fun j => .int (M.2.2.1 a j))) (fun q => by cases q) (by show ¬ (i < 0 ∨ (arrV _ _ _).slots.size ≤ _); rw [arrV_size]; exact hin) rfl rfl hdg fun H1 e1 e2 e3 => ?_
      have hw := mj_w_set (Ω := Ω) (M' := (M.1, M.2.1, mj_ui M.2.2.1 a i.toNatClampNeg x, M.2.2.2)) hsh rfl (fun b s hb _ => mj_cell_cong (mj_ui_ne hb) rfl (fun j => rfl))
      have hP := hH.1.set mj_D he (e := mj_cell Ω (M.1, M.2.1, mj_ui M.2.2.1 a i.toNatClampNeg x, M.2.2.2) a (0, n)) (by
        show H1[mj_q Ω a]? = some (vp_cell _ _)
        rw [e1]
        show some ((vp_cell (Ω.2.1 0) (n, .inl (M.2.2.1 a))).setSlot _ _) = some (vp_cell (Ω.2.1 0) (n, .inl (mj_ui M.2.2.1 a i.toNatClampNeg x a)))
        rw [mj_ui_self, vp_cell_i, vp_cell_i, arrV_store]
        congr 2
        funext z
        by_cases hz : z = i.toNatClampNeg
        · subst hz
          simp [updV, upd]
        · simp [updV, upd, hz]) e3
      rw [hw] at hP
      exact hk _ h H1 _ ls ⟨hP, fun h => by rw [e2]; exact hH.2.1 h, hH.2.2.put e2 e3 (mj_D.2 a _ he)⟩ hl
    · exact h.elim
  · exact h.elim
theorem mj_bas_ok (F : mj_F Ω p s m args meth c o ini cc nL ret) {S : mj_S} {K : mj_S → Prop} (hdg : decode cc pc = .ok (.bastore, 1)) (h : mj_bas S K) (hk : ∀ S', K S' → mj_Wg Ω al nL p l e R s m args below meth c cells slots Q (pc + 1) S') : mj_Wg Ω al nL p l e R s m args below meth c cells slots Q pc S := by
  obtain ⟨L, st, M⟩ := S
  intro H locs ls hH hl
  obtain ⟨hx, hb, hml, hown, hts, hr, hlk, hK, -⟩ := F
  simp only [mj_bas] at h
  split at h
  · rename_i x i a st'
    split at h
    · rename_i n hsh
      obtain ⟨hin, h⟩ := mj_gdI h
      have he := mj_w_at (Ω := Ω) hsh
      refine W.zast hx hb (hH.1 a _ he) ((hK.2 1 _ rfl).1 n (fun j => .int (M.2.2.1 a j))) (fun q => by cases q) (by show ¬ (i < 0 ∨ (arrV _ _ _).slots.size ≤ _); rw [arrV_size]; exact hin) rfl rfl hdg fun H1 e1 e2 e3 => ?_
      have hw := mj_w_set (Ω := Ω) (M' := (M.1, M.2.1, mj_ui M.2.2.1 a i.toNatClampNeg (vp_nar .boolean x), M.2.2.2)) hsh rfl (fun b s hb _ => mj_cell_cong (mj_ui_ne hb) rfl (fun j => rfl))
      have hP := hH.1.set mj_D he (e := mj_cell Ω (M.1, M.2.1, mj_ui M.2.2.1 a i.toNatClampNeg (vp_nar .boolean x), M.2.2.2) a (1, n)) (by
        show H1[mj_q Ω a]? = some (vp_cell _ _)
        rw [e1]
        show some ((vp_cell (Ω.2.1 1) (n, .inl (M.2.2.1 a))).setSlot _ _) = some (vp_cell (Ω.2.1 1) (n, .inl (mj_ui M.2.2.1 a i.toNatClampNeg (vp_nar .boolean x) a)))
        rw [mj_ui_self, vp_cell_i, vp_cell_i, arrV_store]
        congr 2
        funext z
        by_cases hz : z = i.toNatClampNeg
        · subst hz
          simp [updV, upd]
          rfl
        · simp [updV, upd, hz]) e3
      rw [hw] at hP
      exact hk _ h H1 _ ls ⟨hP, fun h => by rw [e2]; exact hH.2.1 h, hH.2.2.put e2 e3 (mj_D.2 a _ he)⟩ hl
    · exact h.elim
  · exact h.elim
theorem mj_las_ok (F : mj_F Ω p s m args meth c o ini cc nL ret) {S : mj_S} {K : mj_S → Prop} (hdg : decode cc pc = .ok (.lastore, 1)) (h : mj_las S K) (hk : ∀ S', K S' → mj_Wg Ω al nL p l e R s m args below meth c cells slots Q (pc + 1) S') : mj_Wg Ω al nL p l e R s m args below meth c cells slots Q pc S := by
  obtain ⟨L, st, M⟩ := S
  intro H locs ls hH hl
  obtain ⟨hx, hb, hml, hown, hts, hr, hlk, hK, -⟩ := F
  simp only [mj_las] at h
  split at h
  · rename_i x i a st'
    split at h
    · rename_i n hsh
      obtain ⟨hin, h⟩ := mj_gdI h
      have he := mj_w_at (Ω := Ω) hsh
      refine W.last hx hb (hH.1 a _ he) ((hK.2 2 _ rfl).1 n (fun j => .long (M.2.2.2 a j))) (fun q => by cases q) (by show ¬ (i < 0 ∨ (arrV _ _ _).slots.size ≤ _); rw [arrV_size]; exact hin) rfl rfl hdg fun H1 e1 e2 e3 => ?_
      have hw := mj_w_set (Ω := Ω) (M' := (M.1, M.2.1, M.2.2.1, mj_ul M.2.2.2 a i.toNatClampNeg x)) hsh rfl (fun b s hb _ => mj_cell_cong rfl (mj_ul_ne hb) (fun j => rfl))
      have hP := hH.1.set mj_D he (e := mj_cell Ω (M.1, M.2.1, M.2.2.1, mj_ul M.2.2.2 a i.toNatClampNeg x) a (2, n)) (by
        show H1[mj_q Ω a]? = some (vp_cell _ _)
        rw [e1]
        show some ((vp_cell (Ω.2.1 2) (n, .inr (.inl (M.2.2.2 a)))).setSlot _ _) = some (vp_cell (Ω.2.1 2) (n, .inr (.inl (mj_ul M.2.2.2 a i.toNatClampNeg x a))))
        rw [mj_ul_self, vp_cell_l, vp_cell_l, arrV_store]
        congr 2
        funext z
        by_cases hz : z = i.toNatClampNeg
        · subst hz
          simp [updV, vp_updL]
        · simp [updV, vp_updL, hz]) e3
      rw [hw] at hP
      exact hk _ h H1 _ ls ⟨hP, fun h => by rw [e2]; exact hH.2.1 h, hH.2.2.put e2 e3 (mj_D.2 a _ he)⟩ hl
    · exact h.elim
  · exact h.elim
end MJU
