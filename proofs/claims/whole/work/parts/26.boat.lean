/-! ===== GunLine.boat where it throws ===== -/
abbrev mj_NSE : String := "java/util/NoSuchElementException"
def mj_nse : List Cond := vx_at0 RX11 166 mj_NSE ["java/lang/RuntimeException", "java/lang/Exception"]
set_option maxRecDepth 100000 in
theorem mj_nseT : mj_nse.all (fun w => mj_gw w || (decide (w ∈ lw_tbl) && mj_isN w && w.onTables)) = true := by decide +kernel
set_option maxRecDepth 100000 in
theorem mj_nseO : (Cond.classLink RX11 164 mj_NSE :: Cond.initialized mj_NSE :: mj_nse).all vx_ot = true := by decide +kernel
set_option maxRecDepth 100000 in
theorem mj_nseW : mj_gw (Cond.classLink RX11 164 mj_NSE) = true ∧ mj_gw (Cond.initialized mj_NSE) = true := by decide +kernel
theorem mj_nse_hat {Ω : mj_Om} {s : State} {args : Array Value} (hts : ∀ w ∈ mj_GW, w.before args s = true) (hKc : mj_Kc Ω s) : ∀ w ∈ mj_nse, w.before args s = true := by
  intro w hw
  have h1 := List.all_eq_true.mp mj_nseT w hw
  simp only [Bool.or_eq_true, Bool.and_eq_true, decide_eq_true_eq] at h1
  rcases h1 with h1 | h1
  · exact hts w (mj_gw_in h1)
  · exact va_Nw.use h1.2 (hKc.1 w (List.mem_filter.mpr ⟨h1.1.1, h1.1.2⟩))
/-- 'throw new NoSuchElementException()' at the place pc of the class GunLine -/
theorem mj_throw {p : Program} {l : Launch} {e : Env} {R : Room} {s : State} {m : MethodId} {args : Array Value} {below : List Frame} {meth : Method} {c : Code} {Ω : mj_Om} {cc : ByteArray} {nL pc : Nat} {ret : Option FieldType} {L : List (Option Value)} {M : mj_M} {Qc : Array Value → State → Outcome → State → Prop} (F : mj_F Ω p s m args meth c 11 false cc nL ret) (hl : l.stackTraces = false)
    (d0 : decode cc pc = .ok (.new 164, 3)) (d3 : decode cc (pc + 3) = .ok (.dup, 1)) (d4 : decode cc (pc + 4) = .ok (.invokespecial 166, 3)) (d7 : decode cc (pc + 7) = .ok (.athrow, 1)) (hout : ∀ x ∈ c.exceptionTable.toList, covers x (pc + 7) = false) (hR : 5 < R.frames ∧ 100 ≤ R.locals ∧ 1 ≤ R.cells ∧ 6 ≤ R.slots) :
    mj_Wg Ω false nL p l e R s m args below meth c 0 0 (vx_MQ below Qc (vx_X (fun _ : Unit => True) (fun E _ t => E = mj_NSE ∧ va_P Ω.1 vwCl (mj_w Ω M) t.heap) (mj_A Ω)) args s 1 6 (mj_A Ω)) pc (L, [], M) := by
  intro H locs ls hH hls
  obtain ⟨hx, hb, hml, hown, hts, hr, hlk2, hK, hin, hbs, hKc⟩ := F
  refine vx_throw0 (rest := []) (names := ["java/lang/RuntimeException", "java/lang/Exception"]) hx hb hl (own := RX11) (cls := mj_NSE) hown (by decide) (by decide) (hts _ (mj_gw_in mj_nseW.1)) (hts _ (mj_gw_in mj_nseW.2)) (mj_nse_hat hts hKc) (fun w hw => List.all_eq_true.mp mj_nseO w hw) hKc.2.1.2.1.2.1 hKc.2.1.2.1.2.2 hH.2.2 (by rw [hml]; exact hls.1) d0 d3 d4 d7 hout (by show 2 + 3 < R.frames; omega) (by show 0 + (13 * (2 + 1) + 42) ≤ R.locals; omega) (by omega) (by omega) hlk2 (fun t hal hsz hold => ?_) hH.2.2.2.2 (Nat.le_refl _) (Nat.le_refl _)
  have hkeep : ∀ a : Nat, a < s.heap.size → ¬ mj_A Ω a → t.heap[a]? = s.heap[a]? := fun a h1 h2 => (hold a (Nat.lt_of_lt_of_le h1 hH.2.2.1)).trans (hH.2.2.2.1 a h1 h2)
  exact ⟨(), trivial, ⟨rfl, hH.1.kept (fun k x hx => hold x.1 ((hH.1 k x hx).lt))⟩, ⟨Nat.le_trans hH.2.2.1 hsz, hkeep⟩⟩
/-- boat(b, w): no such ones -/
def mj_badB (I : Nat → Nat → Int32) (b w : Int32) : Prop := b < 0 ∨ ¬ b < I 39 8 ∨ w < 0 ∨ 11 < w
theorem csX11_boatB : mj_Cs mX11_boat 9 [(160, 0, 2, mj_rcv 11 tX11_isBoat)] := mj_CsV (D' := 1) (ci := 11) (q := (RX11, TX11, 18)) sdX11_isBoat (Nat.le_of_ble_eq_true rfl) fX11_isBoat rfl rfl iX11_isBoat vX11_isBoat (by decide +kernel) l11_160 mj_Cs0
def pX11_boatB : List (Nat × Instr × Nat) := pX11_boat.take 9
theorem dX11_boatB : mj_pd cX11_boat pX11_boatB := fun e he => dX11_boat e (List.mem_of_mem_take he)
set_option maxRecDepth 100000 in
theorem mj_boatX (Qc : Array Value → State → Outcome → State → Prop) (Ω : mj_Om) (l : Launch) (hl : l.stackTraces = false) (I : Nat → Nat → Int32) (J : Nat → Nat → Int64) (b w : Int32) (hbad : mj_badB I b w) : vx_Met l yX11_boat (mj_ws mX11_boat) (mj_rm 10 1 6) (mj_Pc Ω false [.ref 0, .int b, .int w] (mk I J)) Qc (vx_X (fun _ : Unit => True) (fun E _ t => E = mj_NSE ∧ va_P Ω.1 vwCl (mj_w Ω (mk I J)) t.heap) (mj_A Ω)) 1 6 (mj_A Ω) := by
  refine vx_ofW (cc := cX11_boat) (maxL := 3) (ret := some .int) (by decide) rfl ?_
  intro p e s m args below meth c s₁ B hml hexc hv
  obtain ⟨rfl, hP, hal, hbs, hK, hKc⟩ := hv
  have hts := atoms_spec (ws := mj_ws mX11_boat) B.pre
  have F : mj_F Ω p s m ([Value.ref 0, .int b, .int w].map (mj_v Ω)).toArray meth c 11 false cX11_boat 3 (some .int) :=
    ⟨B.exec, B.bytes, hml, findClass_of_methodNamed B.named, fun w hw => hts w (List.mem_cons_of_mem _ hw), B.returns, B.notSynchronized, hK, fun q => (by cases q), hbs, hKc⟩
  have hle : (lg_sl ([Value.ref 0, .int b, .int w].map (mj_v Ω))).length ≤ 3 := Nat.le_of_eq rfl
  have hls := lv_entry ([Value.ref 0, .int b, .int w].map (mj_v Ω)) hle
  rw [lg_entry_eq]
  have hd : ∀ k pc i n, pX11_boat[k]? = some (pc, i, n) → decode cX11_boat pc = .ok (i, n) := fun k pc i n h => (dX11_boat _ (List.mem_of_getElem? h)).1
  have hthrow : ∀ L : List (Option Value), mj_Wg Ω false 3 p l e (mj_rm 10 1 6) s m ([Value.ref 0, .int b, .int w].map (mj_v Ω)).toArray below meth c 0 0 (vx_MQ below Qc (vx_X (fun _ : Unit => True) (fun E _ t => E = mj_NSE ∧ va_P Ω.1 vwCl (mj_w Ω (mk I J)) t.heap) (mj_A Ω)) ([Value.ref 0, .int b, .int w].map (mj_v Ω)).toArray s 1 6 (mj_A Ω)) 18 (L, [], mk I J) :=
    fun L => mj_throw F hl (hd 9 18 _ _ rfl) (hd 10 21 _ _ rfl) (hd 11 22 _ _ rfl) (hd 12 25 _ _ rfl) (fun x hx => (hexc x hx).elim) ⟨by decide, by decide, by decide, by decide⟩
  have key : mj_Wg Ω false 3 p l e (mj_rm 10 1 6) s m ([Value.ref 0, .int b, .int w].map (mj_v Ω)).toArray below meth c 0 0 (vx_MQ below Qc (vx_X (fun _ : Unit => True) (fun E _ t => E = mj_NSE ∧ va_P Ω.1 vwCl (mj_w Ω (mk I J)) t.heap) (mj_A Ω)) ([Value.ref 0, .int b, .int w].map (mj_v Ω)).toArray s 1 6 (mj_A Ω)) 0 ([some (.ref 0), some (.int b), some (.int w)], [], mk I J) := by
    refine mj_run_ok (pe := 2) (K := fun S' => S' = (([some (.ref 0), some (.int b), some (.int w)], [.int b, .ref 0], mk I J) : mj_S)) F [.aload_n 0, .iload_n 1] ⟨hd 0 0 _ _ rfl, hd 1 1 _ _ rfl, rfl⟩ (show (([some (.ref 0), some (.int b), some (.int w)], [.int b, .ref 0], mk I J) : mj_S) = ([some (.ref 0), some (.int b), some (.int w)], [.int b, .ref 0], mk I J) from rfl) (fun S' h => ?_)
    subst h
    refine csX11_boatB Ω l 10 (by omega) _ (List.mem_singleton.mpr rfl) p e s m _ below meth c _ (mj_rm 10 1 6) 0 0 2 _ [.ref 0, .int b] [] (mk I J) (fun r M' => M' = mk I J ∧ r = some (.int (if b < 0 then 0 else if b < I 39 8 then 1 else 0))) F ⟨Nat.le_refl _, Nat.le_refl _, Nat.zero_le _, Nat.zero_le _⟩ (hd 2 2 _ _ rfl) rfl (Nat.zero_le _) ?_ (fun r M' hr => ?_)
    · show (if b < 0 then (mk I J = mk I J ∧ some (Value.int 0) = some (Value.int (if b < 0 then 0 else if b < I 39 8 then 1 else 0))) else (if b < I 39 8 then (mk I J = mk I J ∧ some (Value.int 1) = some (Value.int (if b < 0 then 0 else if b < I 39 8 then 1 else 0))) else (mk I J = mk I J ∧ some (Value.int 0) = some (Value.int (if b < 0 then 0 else if b < I 39 8 then 1 else 0)))))
      by_cases h1 : b < 0
      · simp [h1]
      · by_cases h2 : b < I 39 8
        · simp [h1, h2]
        · simp [h1, h2]
    · obtain ⟨rfl, rfl⟩ := hr
      intro H locs ls hH hls2
      refine lv_if_eq (tgt := 18) F.1 F.2.1 (hd 3 5 _ _ rfl) rfl (fun _ => hthrow _ H locs ls hH hls2) (fun hne => ?_)
      have hin : ¬ b < 0 ∧ b < I 39 8 := by
        by_cases h1 : b < 0
        · simp [h1] at hne
        · by_cases h2 : b < I 39 8
          · exact ⟨h1, h2⟩
          · simp [h1, h2] at hne
      have hw : w < 0 ∨ 11 < w := by
        rcases hbad with h | h | h | h
        · exact absurd h hin.1
        · exact absurd hin.2 h
        · exact Or.inl h
        · exact Or.inr h
      refine mj_run_ok (pe := 9) (S := ([some (.ref 0), some (.int b), some (.int w)], [], mk I J)) (K := fun S' => S' = (([some (.ref 0), some (.int b), some (.int w)], [.int w], mk I J) : mj_S)) F [.iload_n 2] ⟨hd 4 8 _ _ rfl, rfl⟩ (show (([some (.ref 0), some (.int b), some (.int w)], [.int w], mk I J) : mj_S) = ([some (.ref 0), some (.int b), some (.int w)], [.int w], mk I J) from rfl) (fun S' h => ?_) H locs ls hH hls2
      subst h
      intro H locs ls hH hls2
      refine lv_if_lt (tgt := 18) F.1 F.2.1 (hd 5 9 _ _ rfl) rfl (fun _ => hthrow _ H locs ls hH hls2) (fun hn0 => ?_)
      refine mj_run_ok (pe := 15) (S := ([some (.ref 0), some (.int b), some (.int w)], [], mk I J)) (K := fun S' => S' = (([some (.ref 0), some (.int b), some (.int w)], [.int 11, .int w], mk I J) : mj_S)) F [.iload_n 2, .bipush 11] ⟨hd 6 12 _ _ rfl, hd 7 13 _ _ rfl, rfl⟩ (show (([some (.ref 0), some (.int b), some (.int w)], [.int 11, .int w], mk I J) : mj_S) = ([some (.ref 0), some (.int b), some (.int w)], [.int 11, .int w], mk I J) from rfl) (fun S' h => ?_) H locs ls hH hls2
      subst h
      intro H locs ls hH hls2
      refine lv_icmp_le (tgt := 26) F.1 F.2.1 (hd 8 15 _ _ rfl) rfl (fun hle => ?_) (fun _ => hthrow _ H locs ls hH hls2)
      rcases hw with h | h
      · exact absurd h hn0
      · exact absurd h (Int32.not_lt.mpr hle)
  refine key s.heap [] _ ⟨hP, hal, va_S.rf⟩ ⟨hls.1, hls.2.1, fun i v hiv => ?_⟩
  have h2 : (mj_flat [Value.ref 0, .int b, .int w])[i]? = some (some v) := hiv
  have := hls.2.2 _ (mj_flat_in (Ω := Ω) _ 0 i v h2)
  simpa using this
