/-! ===== scattering: pure ===== -/
theorem drw_r {y : Int64} {m : Int32} (hm : 0 < m.toInt) : 0 ≤ (drw y m).toInt ∧ (drw y m).toInt < m.toInt := by
  rw [drw_eq]
  generalize hu : (y.toUInt64 >>> ((33 : Int32).toInt64.toUInt64 &&& Int64.toUInt64 63)).toInt64 = u
  have u0 : 0 ≤ u.toInt ∧ u.toInt < 2147483648 := by
    rw [← hu]
    have e : ((33 : Int32).toInt64.toUInt64 &&& Int64.toUInt64 63) = 33 := by decide
    rw [e]
    have n1 : (y.toUInt64 >>> 33).toNat < 2147483648 := by
      rw [UInt64.toNat_shiftRight]
      have := y.toUInt64.toNat_lt
      rw [show (33 : UInt64).toNat % 64 = 33 from rfl, Nat.shiftRight_eq_div_pow]
      omega
    have e2 : ((y.toUInt64 >>> 33).toInt64).toInt = ((y.toUInt64 >>> 33).toNat : Int) := by
      show BitVec.toInt _ = _
      rw [BitVec.toInt_eq_toNat_cond, if_pos (by show 2 * (y.toUInt64 >>> 33).toNat < _; omega)]
      rfl
    omega
  have m1 := Int32.toInt_lt m
  have em : m.toInt64.toInt = m.toInt := Int32.toInt_toInt64 m
  have dd : (u / m.toInt64).toInt = u.toInt.tdiv m.toInt := by
    rw [Int64.toInt_div, em]
    have hh : (u.toInt.tdiv m.toInt).natAbs ≤ u.toInt.natAbs := by rw [Int.natAbs_tdiv]; exact Nat.div_le_self _ _
    exact Int.bmod_eq_of_le (by omega) (by omega)
  have q2 : (u.toInt.tdiv m.toInt * m.toInt).natAbs ≤ u.toInt.natAbs := by rw [Int.natAbs_mul, Int.natAbs_tdiv]; exact Nat.div_mul_le_self _ _
  have tm : u.toInt.tmod m.toInt = u.toInt - u.toInt.tdiv m.toInt * m.toInt := by
    have := Int.tmod_add_mul_tdiv u.toInt m.toInt
    rw [Int.mul_comm] at this
    omega
  have mm : (u / m.toInt64 * m.toInt64).toInt = u.toInt.tdiv m.toInt * m.toInt := by
    rw [Int64.toInt_mul, dd, em]
    exact Int.bmod_eq_of_le (by omega) (by omega)
  have ss : (u - u / m.toInt64 * m.toInt64).toInt = u.toInt.tmod m.toInt := by
    rw [Int64.toInt_sub, mm, tm]
    exact Int.bmod_eq_of_le (by omega) (by omega)
  have t1 : 0 ≤ u.toInt.tmod m.toInt := Int.tmod_nonneg _ u0.1
  have t2 : u.toInt.tmod m.toInt < m.toInt := Int.tmod_lt_of_pos _ hm
  have fi : ((u - u / m.toInt64 * m.toInt64).toInt32).toInt = u.toInt.tmod m.toInt := by
    rw [Int64.toInt_toInt32, ss]
    exact Int.bmod_eq_of_le (by omega) (by omega)
  rw [fi]
  exact ⟨t1, t2⟩
/-- cells taken by the boats below i are within the line and none twice -/
def dst (w i : Nat) (F : Vw) : Prop := (∀ b, b < i → ∃ c, c < w ∧ F 0 b = nI c) ∧ ∀ a b, a < i → b < i → F 0 a = F 0 b → F 1 a = F 1 b → a = b
noncomputable def fbk (w i : Nat) (F : Vw) : Nat → Int32 → Int32
  | 0, k => k
  | f + 1, k => cif (w ≤ cnt (fun b => F 1 b = k) i) (fbk w i F f (k + 1)) k
noncomputable def fcl (w i : Nat) (F : Vw) (k : Int32) : Nat → Nat → Nat
  | 0, c => c
  | f + 1, c => cif (held i F (nI c) k) (fcl w i F k f (if c + 1 < w then c + 1 else 0)) c
theorem cnt_1 {p : Nat → Prop} : ∀ {n : Nat}, (∀ a b, a < n → b < n → p a → p b → a = b) → cnt p n ≤ 1
  | 0, _ => Nat.zero_le 1
  | n + 1, h => by
    have ih := cnt_1 (p := p) (n := n) (fun a b ha hb => h a b (by omega) (by omega))
    by_cases q : p n
    · have : cnt p n = 0 := by
        have z : ∀ k, k ≤ n → cnt p k = 0 := by
          intro k
          induction k with
          | zero => intro _; rfl
          | succ k ik => intro hk; rw [cnt_n (fun w => by have := h k n (by omega) (by omega) w q; omega)]; exact ik (by omega)
        exact z n (Nat.le_refl n)
      rw [cnt_y q]; omega
    · rw [cnt_n q]; exact ih
theorem cnt_0 {p : Nat → Prop} : ∀ {n : Nat}, (∀ a, a < n → ¬ p a) → cnt p n = 0
  | 0, _ => rfl
  | n + 1, h => by rw [cnt_n (h n (by omega))]; exact cnt_0 (fun a ha => h a (by omega))
theorem cnt_or {p q r : Nat → Prop} : ∀ {n : Nat}, (∀ a, a < n → p a → q a ∨ r a) → cnt p n ≤ cnt q n + cnt r n
  | 0, _ => Nat.zero_le _
  | n + 1, h => by
    have ih := cnt_or (p := p) (q := q) (r := r) (n := n) (fun a ha => h a (by omega))
    have l1 : cnt q n ≤ cnt q (n + 1) := by by_cases z : q n; rw [cnt_y z]; omega; rw [cnt_n z]; exact Nat.le_refl _
    have l2 : cnt r n ≤ cnt r (n + 1) := by by_cases z : r n; rw [cnt_y z]; omega; rw [cnt_n z]; exact Nat.le_refl _
    by_cases z : p n
    · rw [cnt_y z]
      rcases h n (by omega) z with y | y
      · rw [cnt_y y]; omega
      · rw [cnt_y y]; omega
    · rw [cnt_n z]; omega
/-- so many boats of a row, so many held columns -/
theorem row_le {w i : Nat} {F : Vw} {k : Int32} (h : dst w i F) (hw : w < 100) : ∀ v, v ≤ w → cnt (fun b => F 1 b = k ∧ ∃ c, c < v ∧ F 0 b = nI c) i ≤ cnt (fun c => held i F (nI c) k) v
  | 0, _ => by rw [cnt_0 (fun a _ q => by obtain ⟨-, c, hc, -⟩ := q; omega)]; exact Nat.zero_le _
  | v + 1, hv => by
    have ih := row_le (k := k) h hw v (by omega)
    have o := cnt_or (n := i) (p := fun b => F 1 b = k ∧ ∃ c, c < v + 1 ∧ F 0 b = nI c) (q := fun b => F 1 b = k ∧ ∃ c, c < v ∧ F 0 b = nI c) (r := fun b => F 1 b = k ∧ F 0 b = nI v) (fun a _ q => by
      obtain ⟨q1, c, hc, q2⟩ := q
      by_cases e : c = v
      · exact Or.inr ⟨q1, by rw [← e]; exact q2⟩
      · exact Or.inl ⟨q1, c, by omega, q2⟩)
    by_cases z : held i F (nI v) k
    · rw [cnt_y (p := fun c => held i F (nI c) k) z]
      have := cnt_1 (n := i) (p := fun b => F 1 b = k ∧ F 0 b = nI v) (fun a b ha hb p q => h.2 a b ha hb (p.2.trans q.2.symm) (p.1.trans q.1.symm))
      omega
    · rw [cnt_n (p := fun c => held i F (nI c) k) z]
      have := cnt_0 (n := i) (p := fun b => F 1 b = k ∧ F 0 b = nI v) (fun a ha q => z ⟨a, ha, q.2, q.1⟩)
      omega
theorem row_ge {w i : Nat} {F : Vw} {k : Int32} (hw : w < 100) : ∀ v, v ≤ w → cnt (fun c => held i F (nI c) k) v ≤ cnt (fun b => F 1 b = k ∧ ∃ c, c < v ∧ F 0 b = nI c) i
  | 0, _ => Nat.zero_le _
  | v + 1, hv => by
    have ih := row_ge (i := i) (F := F) (k := k) hw v (by omega)
    by_cases z : held i F (nI v) k
    · rw [cnt_y (p := fun c => held i F (nI c) k) z]
      obtain ⟨b, hb, b1, b2⟩ := z
      have := cnt_st (n := i) (j := b) (p := fun b => F 1 b = k ∧ ∃ c, c < v ∧ F 0 b = nI c) (q := fun b => F 1 b = k ∧ ∃ c, c < v + 1 ∧ F 0 b = nI c) (fun a _ q => ⟨q.1, q.2.choose, by have := q.2.choose_spec.1; omega, q.2.choose_spec.2⟩) hb ⟨b2, v, by omega, b1⟩ (fun q => by
        obtain ⟨-, c, hc, q2⟩ := q
        have := b1.symm.trans q2
        rw [jn_eq (by omega) (by omega)] at this
        omega)
      omega
    · rw [cnt_n (p := fun c => held i F (nI c) k) z]
      exact Nat.le_trans ih (cnt_mo (fun a _ q => ⟨q.1, q.2.choose, by have := q.2.choose_spec.1; omega, q.2.choose_spec.2⟩))
theorem row_all {w i : Nat} {F : Vw} {k : Int32} (h : dst w i F) : cnt (fun b => F 1 b = k ∧ ∃ c, c < w ∧ F 0 b = nI c) i = cnt (fun b => F 1 b = k) i := cnt_c (fun b hb => ⟨fun q => q.1, fun q => ⟨q, h.1 b hb⟩⟩)
/-- a full row: every column is held -/
theorem row_full {w i : Nat} {F : Vw} {k : Int32} (h : dst w i F) (hw : w < 100) (hf : w ≤ cnt (fun b => F 1 b = k) i) : ∀ c, c < w → held i F (nI c) k := by
  intro c hc
  have a := row_le (k := k) h hw w (Nat.le_refl w)
  rw [row_all h] at a
  apply Classical.byContradiction
  intro z
  have := cnt_st (n := w) (j := c) (p := fun c => held i F (nI c) k) (q := fun _ => True) (fun _ _ _ => trivial) hc trivial z
  have := cnt_le (fun _ => True) w
  omega
/-- a row that isn't full: a column is free -/
theorem row_free {w i : Nat} {F : Vw} {k : Int32} (h : dst w i F) (hw : w < 100) (hf : ¬ w ≤ cnt (fun b => F 1 b = k) i) : ∃ c, c < w ∧ ¬ held i F (nI c) k := by
  apply Classical.byContradiction
  intro z
  have a := row_ge (i := i) (F := F) (k := k) hw w (Nat.le_refl w)
  rw [row_all h] at a
  have : cnt (fun c => held i F (nI c) k) w = w := by
    have e : ∀ v, v ≤ w → cnt (fun c => held i F (nI c) k) v = v := by
      intro v
      induction v with
      | zero => intro _; rfl
      | succ v iv => intro hv; rw [cnt_y (p := fun c => held i F (nI c) k) (Classical.byContradiction (fun y => z ⟨v, by omega, y⟩)), iv (by omega)]
    exact e w (Nat.le_refl w)
  omega
theorem cnt_ex {p : Nat → Prop} {n : Nat} (h : 1 ≤ cnt p n) : ∃ b, b < n ∧ p b := by
  apply Classical.byContradiction
  intro z
  rw [cnt_0 (fun a ha q => z ⟨a, ha, q⟩)] at h
  omega
theorem rows_n {i : Nat} {F : Vw} {k : Int32} : ∀ m, m ≤ 8 → (∀ j, j < m → 1 ≤ cnt (fun b => F 1 b = k + nI j) i) → m ≤ cnt (fun b => ∃ j, j < m ∧ F 1 b = k + nI j) i
  | 0, _, _ => Nat.zero_le _
  | m + 1, hm, h => by
    have ih := rows_n (i := i) (F := F) (k := k) m (by omega) (fun j hj => h j (by omega))
    obtain ⟨b, hb, e⟩ := cnt_ex (h m (by omega))
    have := cnt_st (n := i) (j := b) (p := fun b => ∃ j, j < m ∧ F 1 b = k + nI j) (q := fun b => ∃ j, j < m + 1 ∧ F 1 b = k + nI j) (fun a _ q => ⟨q.choose, by have := q.choose_spec.1; omega, q.choose_spec.2⟩) hb ⟨m, by omega, e⟩ (fun q => by
      obtain ⟨j, hj, q2⟩ := q
      have := (Int32.add_right_inj k).mp (e.symm.trans q2)
      rw [jn_eq (by omega) (by omega)] at this
      omega)
    omega
theorem fbk_r {w i : Nat} {F : Vw} : ∀ (f : Nat) (k : Int32), (¬ w ≤ cnt (fun b => F 1 b = fbk w i F f k) i) ∨ ∀ j, j < f → w ≤ cnt (fun b => F 1 b = k + nI j) i
  | 0, _ => Or.inr (fun j hj => absurd hj (Nat.not_lt_zero j))
  | f + 1, k => by
    unfold fbk
    by_cases q : w ≤ cnt (fun b => F 1 b = k) i
    · rw [cif_t q]
      rcases fbk_r (w := w) (i := i) (F := F) f (k + 1) with z | z
      · exact Or.inl z
      · refine Or.inr (fun j hj => ?_)
        cases j with
        | zero => rw [show k + nI 0 = k from Int32.add_zero k]; exact q
        | succ j =>
          have := z j (by omega)
          rw [Int32.add_assoc, show (1 : Int32) + nI j = nI (j + 1) by rw [Int32.add_comm, jn_succ]] at this
          exact this
    · rw [cif_f q]; exact Or.inl q
/-- among eight rows one isn't full -/
theorem fbk_ok {w i : Nat} {F : Vw} (hw : 1 ≤ w) (hi : i ≤ 7) (k : Int32) : ¬ w ≤ cnt (fun b => F 1 b = fbk w i F 8 k) i := by
  rcases fbk_r (w := w) (i := i) (F := F) 8 k with z | z
  · exact z
  · have := rows_n (i := i) (F := F) (k := k) 8 (by omega) (fun j hj => Nat.le_trans hw (z j hj))
    have := cnt_le (fun b => ∃ j, j < 8 ∧ F 1 b = k + nI j) i
    omega
theorem fbk_b {w i : Nat} {F : Vw} : ∀ (f : Nat) (k : Int32), 0 ≤ k.toInt → k.toInt + f < 1000 → k.toInt ≤ (fbk w i F f k).toInt ∧ (fbk w i F f k).toInt ≤ k.toInt + f
  | 0, k, _, _ => by unfold fbk; omega
  | f + 1, k, h0, h => by
    unfold fbk
    by_cases q : w ≤ cnt (fun b => F 1 b = k) i
    · rw [cif_t q]
      have e := i_add1 (x := k) (by omega)
      have := fbk_b (w := w) (i := i) (F := F) f (k + 1) (by omega) (by omega)
      omega
    · rw [cif_f q]; omega
theorem nx_mod {w c : Nat} (h : c < w) : (if c + 1 < w then c + 1 else 0) = (c + 1) % w := by
  by_cases q : c + 1 < w
  · rw [if_pos q, Nat.mod_eq_of_lt q]
  · rw [if_neg q, show c + 1 = w by omega, Nat.mod_self]
theorem fcl_ok {w i : Nat} {F : Vw} {k : Int32} (hw : 0 < w) : ∀ (f c : Nat), c < w → (∃ j, j < f ∧ ¬ held i F (nI ((c + j) % w)) k) → fcl w i F k f c < w ∧ ¬ held i F (nI (fcl w i F k f c)) k
  | 0, c, _, h => by obtain ⟨j, hj, -⟩ := h; omega
  | f + 1, c, hc, h => by
    unfold fcl
    by_cases q : held i F (nI c) k
    · rw [cif_t q, nx_mod hc]
      refine fcl_ok hw f _ (Nat.mod_lt _ hw) ?_
      obtain ⟨j, hj, h⟩ := h
      cases j with
      | zero => rw [Nat.add_zero c, Nat.mod_eq_of_lt hc] at h; exact absurd q h
      | succ j => exact ⟨j, by omega, by rw [Nat.mod_add_mod, Nat.add_assoc, Nat.add_comm 1 j]; exact h⟩
    · rw [cif_f q]; exact ⟨hc, q⟩
theorem free_j {w i : Nat} {F : Vw} {k : Int32} (h : dst w i F) (hw : w < 100) (hf : ¬ w ≤ cnt (fun b => F 1 b = k) i) {c : Nat} (hc : c < w) : ∃ j, j < w ∧ ¬ held i F (nI ((c + j) % w)) k := by
  obtain ⟨d, hd, z⟩ := row_free h hw hf
  by_cases q : c ≤ d
  · exact ⟨d - c, by omega, by rw [show c + (d - c) = d by omega, Nat.mod_eq_of_lt hd]; exact z⟩
  · exact ⟨d + w - c, by omega, by rw [show c + (d + w - c) = d + w by omega, Nat.add_mod_right, Nat.mod_eq_of_lt hd]; exact z⟩
/-- the reference's search: cell by cell -/
theorem scan_free {w i : Nat} {F : Vw} {k : Int32} {G : Int32 → Nat → Nat → Prop} {Ψ : Nat → Int32 → Prop} (hw : 0 < w) (step : ∀ k c t, c < w → t < w → (¬ held i F (nI c) k → Ψ c k) → (held i F (nI c) k → if t + 1 = w then G (k + 1) ((c + 1) % w) 0 else G k ((c + 1) % w) (t + 1)) → G k c t) : ∀ (f t c : Nat), f + t = w → c < w → (∃ j, j < f ∧ ¬ held i F (nI ((c + j) % w)) k) → Ψ (fcl w i F k f c) k → G k c t
  | 0, _, _, _, _, h, _ => by obtain ⟨j, hj, -⟩ := h; omega
  | f + 1, t, c, hf, hc, h, p => by
    unfold fcl at p
    refine step k c t hc (by omega) (fun q => by rw [cif_f q] at p; exact p) (fun q => ?_)
    rw [cif_t q, nx_mod hc] at p
    obtain ⟨j, hj, h⟩ := h
    cases j with
    | zero => rw [Nat.add_zero c, Nat.mod_eq_of_lt hc] at h; exact absurd q h
    | succ j =>
      rw [if_neg (by omega)]
      exact scan_free hw step f (t + 1) _ (by omega) (Nat.mod_lt _ hw) ⟨j, by omega, by rw [Nat.mod_add_mod, Nat.add_assoc, Nat.add_comm 1 j]; exact h⟩ p
theorem scan_full {w i : Nat} {F : Vw} {k : Int32} {G : Int32 → Nat → Nat → Prop} {Ψ : Nat → Int32 → Prop} (hw : 0 < w) (step : ∀ k c t, c < w → t < w → (¬ held i F (nI c) k → Ψ c k) → (held i F (nI c) k → if t + 1 = w then G (k + 1) ((c + 1) % w) 0 else G k ((c + 1) % w) (t + 1)) → G k c t) (hh : ∀ c, c < w → held i F (nI c) k) : ∀ (f t c : Nat), f + 1 + t = w → c < w → G (k + 1) ((c + (f + 1)) % w) 0 → G k c t
  | 0, t, c, hf, hc, p => by
    refine step k c t hc (by omega) (fun q => absurd (hh c hc) q) (fun _ => ?_)
    rw [if_pos (by omega)]; exact p
  | f + 1, t, c, hf, hc, p => by
    refine step k c t hc (by omega) (fun q => absurd (hh c hc) q) (fun _ => ?_)
    rw [if_neg (by omega)]
    refine scan_full hw step hh f (t + 1) _ (by omega) (Nat.mod_lt _ hw) ?_
    rw [Nat.mod_add_mod, show c + 1 + (f + 1) = c + (f + 1 + 1) by omega]; exact p
theorem scan {w i : Nat} {F : Vw} {G : Int32 → Nat → Nat → Prop} {Ψ : Nat → Int32 → Prop} (h : dst w i F) (hw : 0 < w) (hw1 : w < 100) (step : ∀ k c t, c < w → t < w → (¬ held i F (nI c) k → Ψ c k) → (held i F (nI c) k → if t + 1 = w then G (k + 1) ((c + 1) % w) 0 else G k ((c + 1) % w) (t + 1)) → G k c t) {c : Nat} (hc : c < w) : ∀ (f : Nat) (k : Int32), (¬ w ≤ cnt (fun b => F 1 b = fbk w i F f k) i) → Ψ (fcl w i F (fbk w i F f k) w c) (fbk w i F f k) → G k c 0
  | 0, k, h1, p => scan_free hw step w 0 c (by omega) hc (free_j h hw1 h1 hc) p
  | f + 1, k, h1, p => by
    unfold fbk at h1 p
    by_cases q : w ≤ cnt (fun b => F 1 b = k) i
    · rw [cif_t q] at h1 p
      refine scan_full hw step (row_full h hw1 q) (w - 1) 0 c (by omega) hc ?_
      rw [show c + (w - 1 + 1) = c + w by omega, Nat.add_mod_right, Nat.mod_eq_of_lt hc]
      exact scan h hw hw1 step hc f (k + 1) h1 p
    · rw [cif_f q] at h1 p
      exact scan_free hw step w 0 c (by omega) hc (free_j h hw1 h1 hc) p
/-- one boat laid by lot -/
noncomputable def scK (w i : Nat) (p : Vw × Int64) : Int32 := fbk w i p.1 8 (5 + drw (nxJ p.2) 10)
noncomputable def scC (w i : Nat) (p : Vw × Int64) : Nat := fcl w i p.1 (scK w i p) w (drw (nxJ (nxJ p.2)) (nI w)).toNatClampNeg
noncomputable def scS (w i : Nat) (p : Vw × Int64) : Vw × Int64 := (vup (vup p.1 0 i (nI (scC w i p))) 1 i (scK w i p), nxJ (nxJ p.2))
theorem scS_e (w i : Nat) (p : Vw × Int64) : (scS w i p).1 = vup (vup p.1 0 i (nI (scC w i p))) 1 i (scK w i p) := rfl
noncomputable def scN (w : Nat) : Nat → Vw × Int64 → Vw × Int64
  | 0, p => p
  | i + 1, p => scS w i (scN w i p)
theorem drw_n {y : Int64} {w : Nat} (h : 0 < w) (h1 : w < 100) : drw y (nI w) = nI (drw y (nI w)).toNatClampNeg ∧ (drw y (nI w)).toNatClampNeg < w := by
  have tw : (nI w).toInt = (w : Int) := jn_toInt (by omega)
  have r := drw_r (y := y) (m := nI w) (by omega)
  have e := jn_of (x := drw y (nI w)) (by rw [Int32.le_iff_toInt_le, i_0]; omega)
  refine ⟨e, ?_⟩
  have e2 : (drw y (nI w)).toInt = ((drw y (nI w)).toNatClampNeg : Int) := by
    have := congrArg Int32.toInt e
    rw [jn_toInt (cl_lt _)] at this
    exact this
  omega
theorem lot_b (y : Int64) : 5 ≤ ((5 : Int32) + drw y 10).toInt ∧ ((5 : Int32) + drw y 10).toInt ≤ 14 := by
  have r := drw_r (y := y) (m := 10) (by decide)
  have t10 : (10 : Int32).toInt = 10 := rfl
  have t5 : (5 : Int32).toInt = 5 := rfl
  rw [i_add (by omega), t5]
  omega
theorem scK_b (w i : Nat) (p : Vw × Int64) : 5 ≤ (scK w i p).toInt ∧ (scK w i p).toInt ≤ 22 := by
  have l := lot_b (nxJ p.2)
  have := fbk_b (w := w) (i := i) (F := p.1) 8 (5 + drw (nxJ p.2) 10) (by omega) (by omega)
  unfold scK
  omega
theorem scC_ok {w i : Nat} {p : Vw × Int64} (h : dst w i p.1) (hw : 0 < w) (hw1 : w < 100) (hi : i ≤ 7) : scC w i p < w ∧ ¬ held i p.1 (nI (scC w i p)) (scK w i p) := by
  have d := drw_n (y := nxJ (nxJ p.2)) hw hw1
  exact fcl_ok hw w _ d.2 (free_j h hw1 (fbk_ok hw hi _) d.2)
theorem dst_S {w i : Nat} {p : Vw × Int64} (h : dst w i p.1) (hw : 0 < w) (hw1 : w < 100) (hi : i ≤ 7) : dst w (i + 1) (scS w i p).1 := by
  obtain ⟨c1, c2⟩ := scC_ok h hw hw1 hi
  have e0 : ∀ b, ¬ b = i → (scS w i p).1 0 b = p.1 0 b := fun b q => by rw [scS_e, vup_k (by decide), vup_b q]
  have e1 : ∀ b, ¬ b = i → (scS w i p).1 1 b = p.1 1 b := fun b q => by rw [scS_e, vup_b q, vup_k (by decide)]
  have s0 : (scS w i p).1 0 i = nI (scC w i p) := by rw [scS_e, vup_k (by decide), vup_s]
  have s1 : (scS w i p).1 1 i = scK w i p := by rw [scS_e, vup_s]
  refine ⟨fun b hb => ?_, fun a b ha hb u v => ?_⟩
  · by_cases q : b = i
    · rw [q, s0]; exact ⟨_, c1, rfl⟩
    · rw [e0 b q]; exact h.1 b (by omega)
  · by_cases qa : a = i
    · by_cases qb : b = i
      · omega
      · rw [qa, s0, e0 b qb] at u
        rw [qa, s1, e1 b qb] at v
        exact absurd ⟨b, by omega, u.symm, v.symm⟩ c2
    · by_cases qb : b = i
      · rw [qb, s0, e0 a qa] at u
        rw [qb, s1, e1 a qa] at v
        exact absurd ⟨a, by omega, u, v⟩ c2
      · rw [e0 a qa, e0 b qb] at u
        rw [e1 a qa, e1 b qb] at v
        exact h.2 a b (by omega) (by omega) u v
theorem dst_N {w : Nat} {p : Vw × Int64} (hw : 0 < w) (hw1 : w < 100) : ∀ i, i ≤ 8 → dst w i (scN w i p).1
  | 0, _ => ⟨fun b hb => absurd hb (Nat.not_lt_zero b), fun a b ha => absurd ha (Nat.not_lt_zero a)⟩
  | i + 1, h => dst_S (dst_N hw hw1 i (by omega)) hw hw1 (by omega)
/-- what the lots leave, and how far they go -/
theorem scN_k {w : Nat} {p : Vw × Int64} {k b : Nat} (h0 : ¬ k = 0) (h1 : ¬ k = 1) : ∀ i, (scN w i p).1 k b = p.1 k b
  | 0 => rfl
  | i + 1 => by show (scS w i (scN w i p)).1 k b = _; rw [scS_e, vup_k h1, vup_k h0]; exact scN_k h0 h1 i
theorem scN_o {w : Nat} {p : Vw × Int64} {k b : Nat} : ∀ i, i ≤ b → (scN w i p).1 k b = p.1 k b
  | 0, _ => rfl
  | i + 1, h => by show (scS w i (scN w i p)).1 k b = _; rw [scS_e, vup_b (by omega), vup_b (by omega)]; exact scN_o i (by omega)
theorem scN_1 {w : Nat} {p : Vw × Int64} {b : Nat} : ∀ i, b < i → 5 ≤ ((scN w i p).1 1 b).toInt ∧ ((scN w i p).1 1 b).toInt ≤ 22
  | 0, h => absurd h (Nat.not_lt_zero b)
  | i + 1, h => by
    show 5 ≤ ((scS w i (scN w i p)).1 1 b).toInt ∧ ((scS w i (scN w i p)).1 1 b).toInt ≤ 22
    rw [scS_e]
    by_cases q : b = i
    · rw [q, vup_s]; exact scK_b _ _ _
    · rw [vup_b q, vup_k (by decide)]; exact scN_1 i (by omega)
theorem FOk_sc {n w : Nat} {C : Nat → Int32} {F : Vw} {z : Int64} (h : FOk 19 n C F 0) (hn : n ≤ 8) (hw : C 0 = nI w) (hw0 : 0 < w) (hw1 : w < 100) : FOk 30 n C (scN w n (F, z)).1 0 := by
  refine ⟨h.1, h.2.1, fun b hb => ?_⟩
  have o := h.2.2 b hb
  have r := scN_1 (w := w) (p := (F, z)) n hb
  obtain ⟨c, hc, e⟩ := (dst_N (p := (F, z)) hw0 hw1 n hn).1 b hb
  unfold bOk at o ⊢
  rw [e, scN_k (k := 2) (by decide) (by decide), scN_k (k := 3) (by decide) (by decide), scN_k (k := 4) (by decide) (by decide), hw, jn_toInt (by omega), jn_toInt (by omega)]
  have t0 : (0 : Int32).toInt = 0 := rfl
  exact ⟨⟨by omega, by omega⟩, ⟨by omega, by omega⟩, o.2.2⟩
