section MJV
variable {p : Program} {l : Launch} {e : Env} {R : Room} {s : State} {m : MethodId} {args : Array Value} {below : List Frame} {meth : Method} {c : Code} {cells slots : Nat} {Q : State → Prop}
variable {Ω : mj_Om} {al : Bool} {o : Nat} {ini : Bool} {cc : ByteArray} {nL pc : Nat} {ret : Option FieldType}
theorem mj_aal_ok (F : mj_F Ω p s m args meth c o ini cc nL ret) {S : mj_S} {K : mj_S → Prop} (hdg : decode cc pc = .ok (.aaload, 1)) (h : mj_aal S K) (hk : ∀ S', K S' → mj_Wg Ω al nL p l e R s m args below meth c cells slots Q (pc + 1) S') : mj_Wg Ω al nL p l e R s m args below meth c cells slots Q pc S := by
  obtain ⟨L, st, M⟩ := S
  intro H locs ls hH hl
  obtain ⟨hx, hb, hml, hown, hts, hr, hlk, hK, -⟩ := F
  simp only [mj_aal] at h
  split at h
  · rename_i i a st'
    split at h
    · rename_i n hsh
      obtain ⟨hin, h⟩ := mj_gdI h
      have he := mj_w_at (Ω := Ω) hsh
      have hlt : i.toNatClampNeg < n := Nat.not_le.mp fun q => hin (Or.inr q)
      have hv : mj_v Ω (mj_rv (mj_rf M a i.toNatClampNeg)) = va_rf ((mj_rf M a i.toNatClampNeg).map (mj_q Ω)) := by
        cases mj_rf M a i.toNatClampNeg <;> rfl
      have k := hk _ h H locs ls hH hl
      rw [List.map_cons, hv] at k
      exact W.aald (v := va_rf ((mj_rf M a i.toNatClampNeg).map (mj_q Ω))) (ty := .array .int) hx hb (hH.1 a _ he) ((hK.2 3 _ rfl).1 n (fun j => va_rf ((mj_rf M a j).map (mj_q Ω)))) rfl (fun q => by cases q) (by show ¬ (i < 0 ∨ (arrV _ _ _).slots.size ≤ _); rw [arrV_size]; exact hin) (by show (arrV _ _ _).slots[_]? = _; rw [arrV_read _ _ hlt]) rfl rfl hdg k
    · exact h.elim
  · exact h.elim
set_option maxHeartbeats 4000000 in
theorem mj_stp_ok (F : mj_F Ω p s m args meth c o ini cc nL ret) {i : Instr} {S : mj_S} {K : mj_S → Prop} (hdg : decode cc pc = .ok (i, mj_len i)) (h : mj_stp o ini nL i S K) (hk : ∀ S', K S' → mj_Wg Ω al nL p l e R s m args below meth c cells slots Q (pc + mj_len i) S') : mj_Wg Ω al nL p l e R s m args below meth c cells slots Q pc S := by
  cases i with
  | getfield k => exact mj_get_ok F hdg h hk
  | putfield k => exact mj_put_ok F hdg h hk
  | iastore => exact mj_ias_ok F hdg h hk
  | bastore => exact mj_bas_ok F hdg h hk
  | lastore => exact mj_las_ok F hdg h hk
  | aaload => exact mj_aal_ok F hdg h hk
  | iconst n =>
    intro H locs ls hH hl
    exact lv_iconst F.1 F.2.1 hdg rfl (hk _ h H locs ls hH hl)
  | bipush n =>
    intro H locs ls hH hl
    exact lv_bipush F.1 F.2.1 hdg rfl (hk _ h H locs ls hH hl)
  | sipush n =>
    intro H locs ls hH hl
    exact lv_sipush F.1 F.2.1 hdg rfl (hk _ h H locs ls hH hl)
  | lconst n =>
    intro H locs ls hH hl
    exact lv_lconst F.1 F.2.1 hdg rfl (hk _ h H locs ls hH hl)
  | ldc n =>
    intro H locs ls hH hl
    simp only [mj_stp, mj_ldcS] at h
    split at h
    · rename_i x hx
      exact lv_ldc F.1 F.2.1 F.2.2.2.1 (F.2.2.2.2.1 _ (mj_ldP hx)) hdg (hk _ h H locs ls hH hl)
    · split at h
      · rename_i i hi
        have h1 := List.find?_some hi
        have h2 := of_decide_eq_true h1
        obtain ⟨q, hq, e⟩ := Option.map_eq_some_iff.mp h2
        cases e
        have hr := F.2.2.2.2.2.2.2.2.2.2.2.2 i q hq
        have k9 := hk _ h H locs ls hH hl
        have e9 : mj_v Ω (.ref (1010 + i)) = .ref (Ω.2.2.2 (1010 + i)) := by
          simp only [mj_v, mj_q]
          rw [if_neg (by omega)]
        rw [List.map_cons, e9] at k9
        exact va_ldcS F.1 F.2.1 F.2.2.2.1 hr hdg k9
      · exact h.elim
  | ldc_w n =>
    intro H locs ls hH hl
    simp only [mj_stp, mj_ldc] at h
    split at h
    · rename_i x hx
      exact lv_ldcw F.1 F.2.1 F.2.2.2.1 (F.2.2.2.2.1 _ (mj_ldP hx)) hdg (hk _ h H locs ls hH hl)
    · exact h.elim
  | ldc2_w n =>
    intro H locs ls hH hl
    simp only [mj_stp, mj_ldc2] at h
    split at h
    · rename_i x hx
      exact lv_ldc2 F.1 F.2.1 F.2.2.2.1 (F.2.2.2.2.1 _ (mj_l2P hx)) hdg (hk _ h H locs ls hH hl)
    · exact h.elim
  | iload_n n =>
    intro H locs ls hH hl
    simp only [mj_stp, mj_iload] at h
    split at h
    · rename_i x hx
      exact lv_iload_n F.1 F.2.1 hdg rfl (mj_at hl hx) (hk _ h H locs ls hH hl)
    · exact h.elim
  | iload n =>
    intro H locs ls hH hl
    simp only [mj_stp, mj_iload] at h
    split at h
    · rename_i x hx
      exact lv_iload F.1 F.2.1 hdg (mj_at hl hx) (hk _ h H locs ls hH hl)
    · exact h.elim
  | lload_n n =>
    intro H locs ls hH hl
    simp only [mj_stp, mj_lload] at h
    split at h
    · rename_i x hx
      exact lv_lload_n F.1 F.2.1 hdg rfl (mj_at hl hx) (hk _ h H locs ls hH hl)
    · exact h.elim
  | lload n =>
    intro H locs ls hH hl
    simp only [mj_stp, mj_lload] at h
    split at h
    · rename_i x hx
      exact lv_lload F.1 F.2.1 hdg (mj_at hl hx) (hk _ h H locs ls hH hl)
    · exact h.elim
  | aload_n n =>
    intro H locs ls hH hl
    simp only [mj_stp, mj_aload] at h
    split at h
    · rename_i x hx
      exact lv_aload_n F.1 F.2.1 hdg rfl (mj_at hl hx) (hk _ h H locs ls hH hl)
    · exact h.elim
  | aload n =>
    intro H locs ls hH hl
    simp only [mj_stp, mj_aload] at h
    split at h
    · rename_i x hx
      exact lv_aload F.1 F.2.1 hdg (mj_at hl hx) (hk _ h H locs ls hH hl)
    · exact h.elim
  | istore_n n =>
    obtain ⟨L, st, M⟩ := S
    intro H locs ls hH hl
    simp only [mj_stp, mj_istore] at h
    split at h
    · obtain ⟨h1, h2, h⟩ := mj_put1_ok h
      exact lv_istore_n F.1 F.2.1 hdg rfl (mj_l_of hl) h2 rfl (fun ls' hl' => hk _ h H locs ls' hH (mj_st h1 hl'))
    · exact h.elim
  | istore n =>
    obtain ⟨L, st, M⟩ := S
    intro H locs ls hH hl
    simp only [mj_stp, mj_istore] at h
    split at h
    · obtain ⟨h1, h2, h⟩ := mj_put1_ok h
      exact lv_istore F.1 F.2.1 hdg (mj_l_of hl) h2 rfl (fun ls' hl' => hk _ h H locs ls' hH (mj_st h1 hl'))
    · exact h.elim
  | astore_n n =>
    obtain ⟨L, st, M⟩ := S
    intro H locs ls hH hl
    simp only [mj_stp, mj_astore] at h
    split at h
    · obtain ⟨h1, h2, h⟩ := mj_put1_ok h
      exact lv_astore_n F.1 F.2.1 hdg rfl (mj_l_of hl) h2 rfl (fun ls' hl' => hk _ h H locs ls' hH (mj_st h1 hl'))
    · exact h.elim
  | astore n =>
    obtain ⟨L, st, M⟩ := S
    intro H locs ls hH hl
    simp only [mj_stp, mj_astore] at h
    split at h
    · obtain ⟨h1, h2, h⟩ := mj_put1_ok h
      exact lv_astore F.1 F.2.1 hdg (mj_l_of hl) h2 rfl (fun ls' hl' => hk _ h H locs ls' hH (mj_st h1 hl'))
    · exact h.elim
  | iinc n z =>
    obtain ⟨L, st, M⟩ := S
    intro H locs ls hH hl
    simp only [mj_stp, mj_iinc] at h
    split at h
    · rename_i x hx
      obtain ⟨h1, h2, h⟩ := mj_put1_ok h
      have hm : (n, mj_v Ω (.int x)) ∈ mj_l Ω L := List.mem_filterMap.mpr ⟨n, List.mem_range.mpr (by
        rcases Nat.lt_or_ge n L.length with q | q
        · exact q
        · unfold mj_ld at hx
          rw [List.getD_eq_getElem?_getD, List.getElem?_eq_none q] at hx
          cases hx), by unfold mj_ld at hx; rw [hx]; rfl⟩
      obtain ⟨k, hkk⟩ := List.getElem?_of_mem hm
      exact lv_iinc F.1 F.2.1 hdg (mj_l_of hl) (k := k) hkk rfl h2 rfl (fun ls' hl' => hk _ h H locs ls' hH (mj_st (v := .int (x + Int32.ofInt z)) h1 hl'))
    · exact h.elim
  | iadd => obtain ⟨L, st, M⟩ := S; intro H locs ls hH hl; simp only [mj_stp, mj_i2] at h; split at h; exact lv_iadd F.1 F.2.1 hdg (hk _ h H locs ls hH hl); exact h.elim
  | isub => obtain ⟨L, st, M⟩ := S; intro H locs ls hH hl; simp only [mj_stp, mj_i2] at h; split at h; exact lv_isub F.1 F.2.1 hdg (hk _ h H locs ls hH hl); exact h.elim
  | imul => obtain ⟨L, st, M⟩ := S; intro H locs ls hH hl; simp only [mj_stp, mj_i2] at h; split at h; exact lv_imul F.1 F.2.1 hdg (hk _ h H locs ls hH hl); exact h.elim
  | iand => obtain ⟨L, st, M⟩ := S; intro H locs ls hH hl; simp only [mj_stp, mj_i2] at h; split at h; exact lv_iand F.1 F.2.1 hdg (hk _ h H locs ls hH hl); exact h.elim
  | ior => obtain ⟨L, st, M⟩ := S; intro H locs ls hH hl; simp only [mj_stp, mj_i2] at h; split at h; exact lv_ior F.1 F.2.1 hdg (hk _ h H locs ls hH hl); exact h.elim
  | ishl => obtain ⟨L, st, M⟩ := S; intro H locs ls hH hl; simp only [mj_stp, mj_i2] at h; split at h; exact lv_ishl F.1 F.2.1 hdg (hk _ h H locs ls hH hl); exact h.elim
  | ishr => obtain ⟨L, st, M⟩ := S; intro H locs ls hH hl; simp only [mj_stp, mj_i2] at h; split at h; exact lv_ishr F.1 F.2.1 hdg (hk _ h H locs ls hH hl); exact h.elim
  | iushr => obtain ⟨L, st, M⟩ := S; intro H locs ls hH hl; simp only [mj_stp, mj_i2] at h; split at h; exact lv_iushr F.1 F.2.1 hdg rfl (hk _ h H locs ls hH hl); exact h.elim
  | idiv => obtain ⟨L, st, M⟩ := S; intro H locs ls hH hl; simp only [mj_stp, mj_i2n] at h; split at h; exact lv_idiv F.1 F.2.1 hdg (mj_gd0 h).1 (hk _ (mj_gd0 h).2 H locs ls hH hl); exact h.elim
  | irem => obtain ⟨L, st, M⟩ := S; intro H locs ls hH hl; simp only [mj_stp, mj_i2n] at h; split at h; exact lv_irem F.1 F.2.1 hdg (mj_gd0 h).1 (hk _ (mj_gd0 h).2 H locs ls hH hl); exact h.elim
  | ineg => obtain ⟨L, st, M⟩ := S; intro H locs ls hH hl; simp only [mj_stp, mj_i1] at h; split at h; exact lv_ineg F.1 F.2.1 hdg (hk _ h H locs ls hH hl); exact h.elim
  | i2b => obtain ⟨L, st, M⟩ := S; intro H locs ls hH hl; simp only [mj_stp, mj_i1] at h; split at h; exact lv_i2b F.1 F.2.1 hdg rfl (hk _ h H locs ls hH hl); exact h.elim
  | i2c => obtain ⟨L, st, M⟩ := S; intro H locs ls hH hl; simp only [mj_stp, mj_i1] at h; split at h; exact lv_i2c F.1 F.2.1 hdg rfl (hk _ h H locs ls hH hl); exact h.elim
  | ladd => obtain ⟨L, st, M⟩ := S; intro H locs ls hH hl; simp only [mj_stp, mj_l2] at h; split at h; exact lv_ladd F.1 F.2.1 hdg (hk _ h H locs ls hH hl); exact h.elim
  | lsub => obtain ⟨L, st, M⟩ := S; intro H locs ls hH hl; simp only [mj_stp, mj_l2] at h; split at h; exact lv_lsub F.1 F.2.1 hdg (hk _ h H locs ls hH hl); exact h.elim
  | lmul => obtain ⟨L, st, M⟩ := S; intro H locs ls hH hl; simp only [mj_stp, mj_l2] at h; split at h; exact lv_lmul F.1 F.2.1 hdg (hk _ h H locs ls hH hl); exact h.elim
  | land => obtain ⟨L, st, M⟩ := S; intro H locs ls hH hl; simp only [mj_stp, mj_l2] at h; split at h; exact lv_land F.1 F.2.1 hdg (hk _ h H locs ls hH hl); exact h.elim
  | lor => obtain ⟨L, st, M⟩ := S; intro H locs ls hH hl; simp only [mj_stp, mj_l2] at h; split at h; exact lv_lor F.1 F.2.1 hdg (hk _ h H locs ls hH hl); exact h.elim
  | ldiv => obtain ⟨L, st, M⟩ := S; intro H locs ls hH hl; simp only [mj_stp, mj_l2n] at h; split at h; exact lv_ldiv F.1 F.2.1 hdg (mj_gdL h).1 (hk _ (mj_gdL h).2 H locs ls hH hl); exact h.elim
  | lrem => obtain ⟨L, st, M⟩ := S; intro H locs ls hH hl; simp only [mj_stp, mj_l2n] at h; split at h; exact lv_lrem F.1 F.2.1 hdg (mj_gdL h).1 (hk _ (mj_gdL h).2 H locs ls hH hl); exact h.elim
  | lshl => obtain ⟨L, st, M⟩ := S; intro H locs ls hH hl; simp only [mj_stp, mj_lsh] at h; split at h; exact lv_lshl F.1 F.2.1 hdg rfl (hk _ h H locs ls hH hl); exact h.elim
  | lushr => obtain ⟨L, st, M⟩ := S; intro H locs ls hH hl; simp only [mj_stp, mj_lsh] at h; split at h; exact lv_lushr F.1 F.2.1 hdg rfl (hk _ h H locs ls hH hl); exact h.elim
  | lcmp => obtain ⟨L, st, M⟩ := S; intro H locs ls hH hl; simp only [mj_stp, mj_lcmp] at h; split at h; exact W.lcmp F.1 F.2.1 hdg (hk _ h H locs ls hH hl); exact h.elim
  | i2l => obtain ⟨L, st, M⟩ := S; intro H locs ls hH hl; simp only [mj_stp, mj_i2l] at h; split at h; exact lv_i2l F.1 F.2.1 hdg rfl (hk _ h H locs ls hH hl); exact h.elim
  | l2i => obtain ⟨L, st, M⟩ := S; intro H locs ls hH hl; simp only [mj_stp, mj_l2i] at h; split at h; exact lv_l2i F.1 F.2.1 hdg rfl (hk _ h H locs ls hH hl); exact h.elim
  | dup => obtain ⟨L, st, M⟩ := S; intro H locs ls hH hl; simp only [mj_stp, mj_dup] at h; split at h; exact lv_dup F.1 F.2.1 hdg rfl (hk _ h H locs ls hH hl); exact lv_dup F.1 F.2.1 hdg rfl (hk _ h H locs ls hH hl); exact h.elim
  | dup2 => obtain ⟨L, st, M⟩ := S; intro H locs ls hH hl; simp only [mj_stp, mj_dup2] at h; split at h; exact lv_dup2_11 F.1 F.2.1 hdg rfl rfl (hk _ h H locs ls hH hl); exact lv_dup2_11 F.1 F.2.1 hdg rfl rfl (hk _ h H locs ls hH hl); exact h.elim
  | pop => obtain ⟨L, st, M⟩ := S; intro H locs ls hH hl; simp only [mj_stp, mj_pop] at h; split at h; exact lv_pop F.1 F.2.1 hdg rfl (hk _ h H locs ls hH hl); exact h.elim
  | iaload =>
    obtain ⟨L, st, M⟩ := S
    intro H locs ls hH hl
    simp only [mj_stp, mj_ial] at h
    split at h
    · split at h
      · rename_i n hsh
        exact va_iald F.1 F.2.1 F.2.2.2.2.2.2.2.1 hH.1 _ 0 (mj_w_at (Ω := Ω) hsh) rfl (mj_gdI h).1 hdg (hk _ (mj_gdI h).2 H locs ls hH hl)
      · split at h
        · rename_i xs hc
          obtain ⟨hqa, hT⟩ := mj_kc_T F.2.2.2.2.2.2.2.2.2.2 hc
          rcases hT with ⟨-, hT⟩ | ⟨hT, -⟩
          · rw [List.map_cons, List.map_cons]
            simp only [mj_v]
            rw [hqa]
            exact va_ti F.1 F.2.1 hT hH.2.2 (mj_gdI h).1 rfl hdg (hk _ (mj_gdI h).2 H locs ls hH hl)
          · cases hT
        · exact h.elim
      · exact h.elim
    · exact h.elim
  | laload =>
    obtain ⟨L, st, M⟩ := S
    intro H locs ls hH hl
    simp only [mj_stp, mj_lal] at h
    split at h
    · split at h
      · rename_i n hsh
        exact va_lald F.1 F.2.1 F.2.2.2.2.2.2.2.1 hH.1 _ 2 (mj_w_at (Ω := Ω) hsh) rfl (mj_gdI h).1 hdg (hk _ (mj_gdI h).2 H locs ls hH hl)
      · exact h.elim
    · exact h.elim
  | baload =>
    obtain ⟨L, st, M⟩ := S
    intro H locs ls hH hl
    simp only [mj_stp, mj_bal] at h
    split at h
    · split at h
      · rename_i n hsh
        exact va_zald F.1 F.2.1 F.2.2.2.2.2.2.2.1 hH.1 _ 1 (mj_w_at (Ω := Ω) hsh) rfl (mj_gdI h).1 hdg (hk _ (mj_gdI h).2 H locs ls hH hl)
      · split at h
        · rename_i xs hc
          obtain ⟨hqa, hT⟩ := mj_kc_T F.2.2.2.2.2.2.2.2.2.2 hc
          rcases hT with ⟨hT, -⟩ | ⟨-, hT⟩
          · cases hT
          · rw [List.map_cons, List.map_cons]
            simp only [mj_v]
            rw [hqa]
            exact va_tb F.1 F.2.1 hT hH.2.2 (mj_gdI h).1 rfl hdg (hk _ (mj_gdI h).2 H locs ls hH hl)
        · exact h.elim
      · exact h.elim
    · exact h.elim
  | arraylength =>
    obtain ⟨L, st, M⟩ := S
    intro H locs ls hH hl
    simp only [mj_stp, mj_alen] at h
    split at h
    · split at h
      · rename_i n hsh
        exact va_alen F.1 F.2.1 F.2.2.2.2.2.2.2.1 hH.1 _ 0 (mj_w_at (Ω := Ω) hsh) rfl rfl hdg (hk _ h H locs ls hH hl)
      · split at h
        · rename_i kd xs hc
          obtain ⟨hqa, hT⟩ := mj_kc_T F.2.2.2.2.2.2.2.2.2.2 hc
          rw [List.map_cons]
          simp only [mj_v]
          rw [hqa]
          rcases hT with ⟨-, hT⟩ | ⟨-, hT⟩
          · exact va_tlen F.1 F.2.1 hT hH.2.2 rfl hdg (hk _ h H locs ls hH hl)
          · exact va_tlen F.1 F.2.1 hT hH.2.2 rfl hdg (hk _ h H locs ls hH hl)
        · exact h.elim
      · exact h.elim
    · exact h.elim
  | _ => exact h.elim
theorem mj_run_ok (F : mj_F Ω p s m args meth c o ini cc nL ret) : ∀ (is : List Instr) {pc pe : Nat} {S : mj_S} {K : mj_S → Prop}, mj_dec cc pc is pe → mj_run o ini nL is S K → (∀ S', K S' → mj_Wg Ω al nL p l e R s m args below meth c cells slots Q pe S') → mj_Wg Ω al nL p l e R s m args below meth c cells slots Q pc S
  | [], pc, pe, S, K, hd, h, hk => by
    cases hd
    exact hk S h
  | i :: is, pc, pe, S, K, hd, h, hk => mj_stp_ok F hd.1 h (fun S' h' => mj_run_ok F is hd.2 h' hk)
end MJV
