/-! ===== calls on a text; System.arraycopy ===== -/
def mj_rcS (pt : mj_PT) : mj_PT := fun as M Φ => match as with
  | .ref a :: _ => mj_gd (decide (1010 ≤ a ∧ a < 1013)) (pt as M Φ)
  | _ => False
def mj_uc (I : Nat → Nat → Int32) (b : Nat) (g : Nat → Int32) : Nat → Nat → Int32 := fun a k => if a = b then g k else I a k
def mj_cpB (sp dp n : Int32) (n0 n1 : Nat) : Bool := decide (0 ≤ sp) && decide (0 ≤ dp) && decide (0 ≤ n) && decide (sp.toNatClampNeg + n.toNatClampNeg ≤ n0) && decide (dp.toNatClampNeg + n.toNatClampNeg ≤ n1)
def mj_ptcp : mj_PT := fun as M Φ => match as with
  | [.ref a, .int sp, .ref b, .int dp, .int n] => match mj_sh M b with
    | some (0, n1) => match mj_sh M a with
      | some (0, n0) => mj_gd (mj_cpB sp dp n n0 n1) (Φ none (M.1, M.2.1, mj_uc M.2.2.1 b (va_cpy (M.2.2.1 a) (M.2.2.1 b) sp.toNatClampNeg dp.toNatClampNeg n.toNatClampNeg), M.2.2.2))
      | none => match mj_kc a with
        | some (0, xs) => mj_gd (mj_cpB sp dp n xs.length n1) (Φ none (M.1, M.2.1, mj_uc M.2.2.1 b (va_cpy (fun j => xs.getD j 0) (M.2.2.1 b) sp.toNatClampNeg dp.toNatClampNeg n.toNatClampNeg), M.2.2.2))
        | _ => False
      | _ => False
    | _ => False
  | _ => False
section MJX
variable {Ω : mj_Om} {l : Launch} {al : Bool} {μ : mj_m} {d : Nat}
theorem mj_callVS {μ' : mj_m} {d' k n : Nat} {pt : mj_PT} (hd : d' + 1 ≤ d) (hM : ∀ as M Φ, pt as M Φ → mj_Met Ω l al μ' d' 0 0 as M Φ) (hf : mj_mf μ') (hcl : μ'.2.2.2.2.2.cls = "java/lang/String") (hi : Cond.instanceMethod μ'.2.2.2.2.2 ∈ mj_GW) (hs : Cond.selects "java/lang/String" μ'.2.2.2.2.2 μ'.2.2.2.2.2 ∈ mj_GW)
    (hn : mj_np μ' = some n) (hlk : Cond.methodLink (mj_own.getD μ.1 "") k μ'.2.2.2.2.2 ∈ mj_GW) : mj_Call Ω l al μ d k 0 (n + 1) (mj_rcS pt) := by
  intro p e s m args below meth c Q R k0 n0 pc L as rest M Φ F hRR hdg hlen hW hpt hk H locs ls hH hl
  obtain ⟨hx, hb, hml, hown, hts, hr, hlk2, hK, hin, hbs, hKc⟩ := F
  simp only [mj_rcS] at hpt
  split at hpt
  · rename_i a tl
    obtain ⟨hdd, hpt⟩ := mj_gd_iff.mp hpt
    obtain ⟨h1, h2⟩ := of_decide_eq_true hdd
    obtain ⟨i, rfl⟩ : ∃ i : Nat, a = 1010 + i := ⟨a - 1010, (Nat.add_sub_cancel' h1).symm⟩
    have hi3 : i < mj_kS.length := Nat.lt_of_add_lt_add_left (n := 1010) h2
    obtain ⟨cell, c1, c2, c3, -⟩ := (hKc.2.1.2.2 i _ (List.getElem?_eq_getElem hi3)).1.kept hH.2.2.2.1
    have hqa : mj_q Ω (1010 + i) = Ω.2.2.2 (1010 + i) := by simp only [mj_q]; rw [if_neg (by omega)]
    have hG : GoodIn mj_GW (wsV (mj_own.getD μ.1 "") k "java/lang/String" μ'.2.2.2.2.2 (mj_ws μ')) := by
      intro w hw
      unfold wsV mj_ws at hw
      simp only [List.cons_append, List.nil_append, List.mem_cons] at hw
      rcases hw with rfl | rfl | rfl | rfl | rfl | hw
      · exact mj_good hlk
      · exact mj_good hi
      · exact mj_good hs
      · rw [← hcl]; exact mj_good hf.2.1
      · exact mj_good hf.1
      · exact mj_good hw
    have cw := cwV (R := R) (s := s) (args := args) (own := mj_own.getD μ.1 "") (C := "java/lang/String") (index := k) (y := μ'.2.2.2.2.2) (bytes := μ'.2.2.1) (maxL := μ'.2.2.2.1) (ret := μ'.2.2.2.2.1) (ws := mj_ws μ') (rm := mj_rm d' 0 0) (mc := 0) (ms := 0) n hts hG rfl rfl rfl ⟨hcl, hf.2.2.2.1, hf.2.2.2.2, hn⟩ ⟨by show d' + 1 ≤ R.frames; omega, by show 8 + (μ'.2.2.2.1 + 11) + 64 * d' ≤ R.locals; have := hf.2.2.1; omega⟩
    have run := va_runV (l := l) (e := e) (below := below) (meth := meth) (cells := k0) (slots := n0) (locs := locs) (As := tl.map (mj_v Ω)) (rest := rest.map (mj_v Ω)) (g := F0 m pc ls (((.ref (1010 + i) :: tl).reverse ++ rest).map (mj_v Ω))) (b := mj_q Ω (1010 + i)) (H := H) ⟨hx, hb, hml, hown, hts⟩ (hM _ _ _ hpt) cw
      ⟨mj_blind, ⟨cell, by rw [hqa]; exact c1, c2, c3⟩, fun U hU hWm => ⟨rfl, by rw [hU]; exact hH.1, by rw [hU]; exact hH.2.1, by rw [hU]; exact Nat.le_trans hbs hH.2.2.1, va_K.moved hWm.alike hK, mj_Kc_warm hKc hWm (fun a h1 h2 => by rw [hU]; exact hH.2.2.2.1 a h1 h2)⟩⟩ rfl (by simp at hlen ⊢; omega) hl.1 (by simp [mj_v]) (by
        show 2 * 0 + _ ≤ 8
        have : ((rest.map (mj_v Ω)).map fun v => v.category) = rest.map (fun v => v.category) := by rw [List.map_map]; exact List.map_congr_left (fun v _ => mj_v_cat Ω v)
        rw [this]; omega) hdg ⟨hRR.2.2.1, hRR.2.2.2⟩
    exact mj_after run hH.2.2 hl hk
  · exact hpt.elim
theorem mj_uc_ne {I : Nat → Nat → Int32} {b a : Nat} {g : Nat → Int32} (h : a ≠ b) : mj_uc I b g a = I a := by
  funext k
  simp [mj_uc, h]
theorem mj_uc_self {I : Nat → Nat → Int32} {b : Nat} {g : Nat → Int32} : mj_uc I b g b = g := by
  funext k
  simp [mj_uc]
theorem mj_cpB_ok {sp dp n : Int32} {n0 n1 : Nat} (h : mj_cpB sp dp n n0 n1 = true) : ¬ sp < 0 ∧ ¬ dp < 0 ∧ ¬ n < 0 ∧ sp.toNatClampNeg + n.toNatClampNeg ≤ n0 ∧ dp.toNatClampNeg + n.toNatClampNeg ≤ n1 := by
  simp only [mj_cpB, Bool.and_eq_true, decide_eq_true_eq] at h
  exact ⟨Int32.not_lt.mpr h.1.1.1.1, Int32.not_lt.mpr h.1.1.1.2, Int32.not_lt.mpr h.1.1.2, h.1.2, h.2⟩
/-- a copy out of a static array of ints -/
theorem mj_copyT {p : Program} {e : Env} {R : Room} {s : State} {m : MethodId} {args : Array Value} {below : List Frame} {meth : Method} {c : Code} {H : Heap} {locs : List Loc} {cells slots : Nat} {Q : State → Prop} {cc : ByteArray} {pc : Nat} {ls : Array Slot} {rest : List Value} {D : va_G} {cl : List vw_C} {A : Nat → Prop} {a : Nat} {tys : List (ClassId × FieldType)} {ws : va_W}
    (hexec : p.tables.exec = Jvm.exec) (hb : c.code = cc) (hml : c.maxLocals = ls.size) {own : String} {index : Nat} (hown : s.vm.findClass own = some m.cls) (hlink : (Cond.methodLink own index arraycopyName).before args s = true) (hnat : (Cond.native arraycopyName).before args s = true) (hstat : (Cond.static arraycopyName).before args s = true) (hini : (Cond.initialized "java/lang/System").before args s = true)
    (hK : va_K D cl tys s) (hP : va_P D cl ws H) (hD : va_D A ws) (hS : va_S A s.heap H locs) {b0 n0 : Nat} {f : Nat → Int32} (hX : va_T .int b0 n0 (fun j => .int (f j)) A s s.heap) (q1 t1 : Nat) {c1 : ClassId} {n1 : Nat} {g : Nat → Int32} (ha1 : ws[q1]? = some (a, .inl (c1, n1, .inl g))) (ht1 : tys[t1]? = some (c1, .int))
    {sp dp n : Int32} (h1 : ¬ sp < 0) (h2 : ¬ dp < 0) (h3 : ¬ n < 0) (h4 : sp.toNatClampNeg + n.toNatClampNeg ≤ n0) (h5 : dp.toNatClampNeg + n.toNatClampNeg ≤ n1)
    (hframes : 1 ≤ R.frames) (hlocals : (rest.map fun v => v.category).sum + (nativeFrameWords "java/lang/System" "arraycopy" 5 + 11) ≤ R.locals) (hdg : decode cc pc = .ok (.invokestatic index, 3))
    (kk : ∀ (H1 : Heap) (locs1 : List Loc), va_P D cl (ws.set q1 (a, .inl (c1, n1, .inl (va_cpy f g sp.toNatClampNeg dp.toNatClampNeg n.toNatClampNeg)))) H1 → va_S A s.heap H1 locs1 → W p l e R s m args below meth c H1 locs1 cells slots Q (F0 m (pc + 3) ls rest)) : W p l e R s m args below meth c H locs cells slots Q (F0 m pc ls (.int n :: .int dp :: .ref a :: .int sp :: .ref b0 :: rest)) := by
  have nn : ∀ z : Int32, ¬ z < 0 → z.toInt = (z.toNatClampNeg : Int) := by
    intro z hz
    have hz0 : (0 : Int) ≤ z.toInt := by simpa using Int32.le_iff_toInt_le.mp (Int32.not_lt.mp hz)
    show z.toInt = ((z.toInt.toNat : Nat) : Int)
    omega
  intro T hT X
  obtain ⟨scr, hs1, hs2, hs3, hs4, -, hs5, hs7⟩ := hX
  have hc0 : H[b0]? = some scr := by rw [hS.2.1 b0 (Array.getElem?_eq_some_iff.mp hs1).1 hs7]; exact hs1
  have hc1 : H[a]? = some (vp_cell c1 (n1, .inl g)) := hP q1 _ ha1
  obtain ⟨hs6, k0, hk0, cm0, hkk0⟩ := hs2
  obtain ⟨-, k1, hk1, cm1, hkk1⟩ := (hK.2 t1 _ ht1).1 n1 (fun j => .int (g j))
  obtain ⟨vm', X', step⟩ := X.arraycopy hexec hown hlink hnat hstat hini (src := b0) (dst := a) (cs := scr) (cd := vp_cell c1 (n1, .inl g)) (srcPos := sp) (destPos := dp) (n := n) (by rw [hT]; exact hc0) (by rw [hT]; exact hc1)
    hs6 (fun _ h => by cases h) hs3 (fun h => by cases h) hk0 hk1 hkk0 hkk1 (by simp [refKind]) h1 h2 h3
    (by rw [nn sp h1, nn n h3]; omega)
    (by rw [nn dp h2, nn n h3]; show ¬ _ > ((arrV c1 n1 (fun j => .int (g j))).slots.size : Int); rw [arrV_size]; omega)
    (fun vm₁ _ i hi => by
      have e : scr.slots.getD (sp.toNatClampNeg + i) .null = .int (f (sp.toNatClampNeg + i)) := by
        rw [Array.getD_eq_getD_getElem?, hs5 _ (by omega)]
        rfl
      refine ⟨?_, ?_⟩
      · rw [e]
        rfl
      · rw [e]
        exact trivial)
    (g := F0 m pc ls (.int n :: .int dp :: .ref a :: .int sp :: .ref b0 :: rest)) rfl (by rw [hml]) (rest := rest) rfl (by rw [hb]; exact hdg) hframes (by show 2 * 0 + _ + _ ≤ _; omega)
  have e1 : copied scr (vp_cell c1 (n1, .inl g)) sp dp n = vp_cell c1 (n1, .inl (va_cpy f g sp.toNatClampNeg dp.toNatClampNeg n.toNatClampNeg)) := va_copiedX (fun z => .int z) scr c1 f g hs5 h4
  rw [e1] at X' step
  have hl : a < H.size := (Array.getElem?_eq_some_iff.mp hc1).1
  have hheap : ((T.setVm vm').setCell a (vp_cell c1 (n1, .inl (va_cpy f g sp.toNatClampNeg dp.toNatClampNeg n.toNatClampNeg)))).heap = H.setIfInBounds a (vp_cell c1 (n1, .inl (va_cpy f g sp.toNatClampNeg dp.toNatClampNeg n.toNatClampNeg))) := by rw [← hT]; rfl
  have oq : ∀ q : Nat, q ≠ a → (H.setIfInBounds a (vp_cell c1 (n1, .inl (va_cpy f g sp.toNatClampNeg dp.toNatClampNeg n.toNatClampNeg))))[q]? = H[q]? := fun q hq => by simp [Array.getElem?_setIfInBounds, Ne.symm hq]
  obtain ⟨t, a1, b1⟩ := kk _ _ (hP.set hD ha1 (show (H.setIfInBounds a _)[a]? = some _ by simp [Array.getElem?_setIfInBounds, hl]) oq) ⟨by simp; exact hS.1, fun q g1 g2 => by
      rw [oq q (fun e => g2 (by rw [e]; exact hD.2 q1 _ ha1))]
      exact hS.2.1 q g1 g2, fun q hq => by
      rcases List.mem_append.mp hq with h | h
      · exact hS.2.2 q h
      · obtain ⟨z, -, hz⟩ := List.mem_map.mp h
        rw [← hz]
        exact hD.2 q1 _ ha1⟩ _ hheap X'
  exact ⟨t, step t a1, b1⟩
theorem mj_callCp {k : Nat} (hd : 2 ≤ d) (hlk : Cond.methodLink (mj_own.getD μ.1 "") k arraycopyName ∈ mj_GW) : mj_Call Ω l false μ d k 1 5 mj_ptcp := by
  intro p e s m args below meth c Q R k0 n0 pc L as rest M Φ F hRR hdg hlen hW hpt hk H locs ls hH hl
  obtain ⟨hx, hb, hml, hown, hts, hr, hlk2, hK, hin, hbs, hKc⟩ := F
  have hrm : ((rest.map (mj_v Ω)).map fun v => v.category).sum + (nativeFrameWords "java/lang/System" "arraycopy" 5 + 11) ≤ R.locals := by
    have : ((rest.map (mj_v Ω)).map fun v => v.category) = rest.map (fun v => v.category) := by rw [List.map_map]; exact List.map_congr_left (fun v _ => mj_v_cat Ω v)
    rw [this]
    have h9 : nativeFrameWords "java/lang/System" "arraycopy" 5 ≤ 60 := by decide +kernel
    omega
  simp only [mj_ptcp] at hpt
  split at hpt
  · rename_i a sp b dp n
    have hst : (([Value.ref a, .int sp, .ref b, .int dp, .int n].reverse ++ rest).map (mj_v Ω)) = .int n :: .int dp :: .ref (mj_q Ω b) :: .int sp :: .ref (mj_q Ω a) :: rest.map (mj_v Ω) := by simp [mj_v]
    show W p l e R s m args below meth c H locs k0 n0 Q (F0 m pc ls (([Value.ref a, .int sp, .ref b, .int dp, .int n].reverse ++ rest).map (mj_v Ω)))
    rw [hst]
    split at hpt
    · rename_i n1 hshb
      have heb := mj_w_at (Ω := Ω) hshb
      split at hpt
      · rename_i n0 hsha
        have hea := mj_w_at (Ω := Ω) hsha
        obtain ⟨h0, hpt⟩ := mj_gd_iff.mp hpt
        obtain ⟨h1, h2, h3, h4, h5⟩ := mj_cpB_ok h0
        refine va_copyi (A := mj_A Ω) (H0 := s.heap) hx hb (by rw [hml]; exact hl.1.symm) hown (hts _ hlk) (hts _ mj_cpN) (hts _ mj_cpS) (hts _ mj_cpI) hK hH.1 mj_D hH.2.2 a b 0 0 hea heb rfl rfl rfl h1 h2 h3 h4 h5 (fun _ _ => rfl) (by omega) hrm hdg (fun H1 locs1 hP hD hS => ?_)
        have hw := mj_w_set (Ω := Ω) (M' := (M.1, M.2.1, mj_uc M.2.2.1 b (va_cpy (M.2.2.1 a) (M.2.2.1 b) sp.toNatClampNeg dp.toNatClampNeg n.toNatClampNeg), M.2.2.2)) hshb rfl (fun q s hq _ => mj_cell_cong (mj_uc_ne hq) rfl (fun j => rfl))
        have hc : mj_cell Ω (M.1, M.2.1, mj_uc M.2.2.1 b (va_cpy (M.2.2.1 a) (M.2.2.1 b) sp.toNatClampNeg dp.toNatClampNeg n.toNatClampNeg), M.2.2.2) b (0, n1) = .inl (Ω.2.1 0, n1, .inl (va_cpy (M.2.2.1 a) (M.2.2.1 b) sp.toNatClampNeg dp.toNatClampNeg n.toNatClampNeg)) := by
          simp only [mj_cell, mj_uc_self]
        rw [hc] at hw
        rw [hw] at hP
        exact hk none _ hpt H1 locs1 ls ⟨hP, fun h => (by cases h), hS⟩ hl
      · split at hpt
        · rename_i xs hkc
          obtain ⟨hqa, hT⟩ := mj_kc_T hKc hkc
          rcases hT with ⟨-, hT⟩ | ⟨hT, -⟩
          · obtain ⟨h0, hpt⟩ := mj_gd_iff.mp hpt
            obtain ⟨h1, h2, h3, h4, h5⟩ := mj_cpB_ok h0
            rw [hqa]
            refine mj_copyT (A := mj_A Ω) (f := fun j => xs.getD j 0) hx hb (by rw [hml]; exact hl.1.symm) hown (hts _ hlk) (hts _ mj_cpN) (hts _ mj_cpS) (hts _ mj_cpI) hK hH.1 mj_D hH.2.2 hT b 0 heb rfl h1 h2 h3 h4 h5 (by omega) hrm hdg (fun H1 locs1 hP hS => ?_)
            have hw := mj_w_set (Ω := Ω) (M' := (M.1, M.2.1, mj_uc M.2.2.1 b (va_cpy (fun j => xs.getD j 0) (M.2.2.1 b) sp.toNatClampNeg dp.toNatClampNeg n.toNatClampNeg), M.2.2.2)) hshb rfl (fun q s hq _ => mj_cell_cong (mj_uc_ne hq) rfl (fun j => rfl))
            have hc : mj_cell Ω (M.1, M.2.1, mj_uc M.2.2.1 b (va_cpy (fun j => xs.getD j 0) (M.2.2.1 b) sp.toNatClampNeg dp.toNatClampNeg n.toNatClampNeg), M.2.2.2) b (0, n1) = .inl (Ω.2.1 0, n1, .inl (va_cpy (fun j => xs.getD j 0) (M.2.2.1 b) sp.toNatClampNeg dp.toNatClampNeg n.toNatClampNeg)) := by
              simp only [mj_cell, mj_uc_self]
            rw [hc] at hw
            rw [hw] at hP
            exact hk none _ hpt H1 locs1 ls ⟨hP, fun h => (by cases h), hS⟩ hl
          · cases hT
        · exact hpt.elim
      · exact hpt.elim
    · exact hpt.elim
  · exact hpt.elim
end MJX
theorem mj_CsVS {μ μ' : mj_m} {D D' k n : Nat} {pt : mj_PT} {cs : List (Nat × Nat × Nat × mj_PT)} (h : mj_Sd μ' D' pt) (hD : D' + 1 ≤ D) (hf : mj_mf μ') (hcl : μ'.2.2.2.2.2.cls = "java/lang/String") (hi : Cond.instanceMethod μ'.2.2.2.2.2 ∈ mj_GW) (hs : Cond.selects "java/lang/String" μ'.2.2.2.2.2 μ'.2.2.2.2.2 ∈ mj_GW)
    (hn : mj_np μ' = some n) (hlk : Cond.methodLink (mj_own.getD μ.1 "") k μ'.2.2.2.2.2 ∈ mj_GW) (ht : mj_Cs μ D cs) : mj_Cs μ D ((k, 0, n + 1, mj_rcS pt) :: cs) := by
  intro Ω l d hd q' hq'
  rcases List.mem_cons.mp hq' with rfl | hq'
  · exact mj_callVS (d' := D') (by omega) (h Ω l D' (Nat.le_refl _)) hf hcl hi hs hn hlk
  · exact ht Ω l d hd q' hq'
theorem mj_CsCp {μ : mj_m} {D k : Nat} {cs : List (Nat × Nat × Nat × mj_PT)} (hD : 2 ≤ D) (hlk : Cond.methodLink (mj_own.getD μ.1 "") k arraycopyName ∈ mj_GW) (ht : mj_Cs μ D cs) : mj_Cs μ D ((k, 1, 5, mj_ptcp) :: cs) := by
  intro Ω l d hd q' hq'
  rcases List.mem_cons.mp hq' with rfl | hq'
  · exact mj_callCp (by omega) hlk
  · exact ht Ω l d hd q' hq'
