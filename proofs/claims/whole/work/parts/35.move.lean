/-! ===== seconds as they pass: the pure functions ===== -/
theorem i_add {x y : Int32} (h : -2147483648 ≤ x.toInt + y.toInt ∧ x.toInt + y.toInt ≤ 2147483647) : (x + y).toInt = x.toInt + y.toInt := by
  rw [Int32.toInt_add]; exact Int.bmod_eq_of_le (by simp; omega) (by simp; omega)
theorem i_sub {x y : Int32} (h : -2147483648 ≤ x.toInt - y.toInt ∧ x.toInt - y.toInt ≤ 2147483647) : (x - y).toInt = x.toInt - y.toInt := by
  rw [Int32.toInt_sub]; exact Int.bmod_eq_of_le (by simp; omega) (by simp; omega)
theorem i_sub1 {x : Int32} (h : -2147483648 < x.toInt) : (x - 1).toInt = x.toInt - 1 := i_sub (y := 1) (by have := Int32.toInt_lt x; have : (1 : Int32).toInt = 1 := rfl; omega)
theorem i_add1 {x : Int32} (h : x.toInt < 2147483647) : (x + 1).toInt = x.toInt + 1 := i_add (y := 1) (by have := Int32.le_toInt x; have : (1 : Int32).toInt = 1 := rfl; omega)
theorem i_addm {x : Int32} (h : -2147483648 < x.toInt) : (x + -1).toInt = x.toInt - 1 := by
  rw [i_add (y := -1) (by have := Int32.toInt_lt x; have : (-1 : Int32).toInt = -1 := rfl; omega)]
  rfl
theorem i_0 : (0 : Int32).toInt = 0 := rfl
theorem i_1 : (1 : Int32).toInt = 1 := rfl
noncomputable def sailN (n b : Nat) : Nat → Vw → Vw
  | 0, F => F
  | k + 1, F => cif (held n F (F 0 b) (F 1 b - 1)) (vup F 2 b 0) (sailN n b k (vup F 1 b (F 1 b - 1)))
noncomputable def sailV (n : Nat) (Sh : Nat → Int32) (F : Vw) (b : Nat) : Vw := sailN n b ((F 2 b - Sh b).toNatClampNeg) F
noncomputable def goN (n : Nat) (Sh B : Nat → Int32) : Nat → Vw → Vw
  | 0, F => F
  | k + 1, F => sailV n Sh (goN n Sh B k F) (ordN n B k)
def tideV (n : Nat) (F : Vw) : Vw := fun k b => if k = 1 then (if b < n then F 1 b - 1 else F k b) else F k b
noncomputable def driftB (n c : Nat) : Nat → Vw → Vw
  | 0, F => F
  | i + 1, F => cif ((driftB n c i F) 0 i = nI c ∧ ¬ held n (driftB n c i F) (nI (c + 1)) ((driftB n c i F) 1 i)) (vup (driftB n c i F) 0 i (nI (c + 1))) (driftB n c i F)
noncomputable def driftC (n : Nat) : Nat → Vw → Vw
  | 0, F => F
  | c + 1, F => driftC n c (driftB n c n F)
def earlyV (n : Nat) (F : Vw) : Vw := fun k b => if k = 7 then (if b < n then (if F 1 b < 0 then 1 else F 7 b) else F k b) else F k b
def comes (e g : Int32) : Prop := ¬ e = 0 ∧ g - g / e * e = 0
noncomputable def tideM (n : Nat) (C : Nat → Int32) (s : Int32) (F : Vw) : Vw := cif (comes (C 3) s) (tideV n F) F
noncomputable def driftM (n : Nat) (C : Nat → Int32) (s : Int32) (F : Vw) : Vw := cif (comes (C 4) s) (driftC n ((C 0).toNatClampNeg - 1) F) F
noncomputable def earlyM (n : Nat) (C : Nat → Int32) (s : Int32) (F : Vw) : Vw := cif (9 < C 5 - s) F (earlyV n F)
noncomputable def moveV (n : Nat) (C Sh B : Nat → Int32) (F : Vw) (s : Int32) : Vw := earlyM n C (s + 1) (driftM n C (s + 1) (tideM n C (s + 1) (goN n Sh B n F)))
def lee (n : Nat) (F : Vw) (b : Nat) : Prop := 0 < F 0 b ∧ held n F (F 0 b - 1) (F 1 b)
def blv (F : Vw) (b : Nat) : Int32 := if F 6 b = 1 then F 1 b else F 1 b + 5 - F 4 b
noncomputable def lettV (n : Nat) (C : Nat → Int32) (F : Vw) (s : Int32) (b : Nat) : Nat → Int32 := fun j => match j with
  | 0 => blv F b
  | 1 => C 5 - s
  | 2 => F 2 b
  | 3 => F 0 b
  | 4 => nI (nbs n F b)
  | 5 => b2i (shad n F b)
  | 6 => b2i (lee n F b)
  | _ => 0
def asp (v m w : Int32) : Int32 := if 0 < w then (if v < m then v + 1 else v) else if w < 0 then (if 0 < v then v - 1 else v) else v
abbrev RF : Type := Int32 → (Nat → Int32) → Int32
noncomputable def askV (n : Nat) (C : Nat → Int32) (R : RF) (F : Vw) (s skip : Int32) : Vw := fun k b => if k = 2 then (if b < n then (if nI b = skip then F 2 b else asp (F 2 b) (F 3 b) (R (F 5 b) (lettV n C F s b))) else F k b) else F k b
noncomputable def shV (n : Nat) (F : Vw) : Nat → Int32 := fun b => b2i (shad n F b)
noncomputable def passV (n : Nat) (C : Nat → Int32) (R : RF) (F : Vw) (s : Int32) : Vw := moveV n C (shV n F) (F 1) (askV n C R F s (-1)) s
noncomputable def passH (n : Nat) (C : Nat → Int32) (R : RF) (b : Nat) (F : Vw) (s : Int32) : Vw := moveV n C (shV n F) (F 1) (vup (askV n C R F s (nI b)) 2 b 0) s
noncomputable def passR (n : Nat) (C : Nat → Int32) (R : RF) (b : Nat) (F : Vw) (s : Int32) : Vw := moveV n C (shV n F) (F 1) (vup (askV n C R F s (nI b)) 2 b (asp (F 2 b) (F 3 b) 1)) s
noncomputable def gunV (n : Nat) (C : Nat → Int32) (R : RF) : Nat → Vw → Int32 → Vw
  | 0, F, _ => F
  | k + 1, F, s => gunV n C R k (passV n C R F s) (s + 1)
noncomputable def gunR (n : Nat) (C : Nat → Int32) (R : RF) (b : Nat) : Nat → Vw → Int32 → Vw
  | 0, F, _ => F
  | k + 1, F, s => gunR n C R b k (passR n C R b F s) (s + 1)
/-- what a boat may be -/
def bOk (u w s : Int) (F : Vw) (b : Nat) : Prop := (0 ≤ (F 0 b).toInt ∧ (F 0 b).toInt < w) ∧ (-(30 * s) ≤ (F 1 b).toInt ∧ (F 1 b).toInt ≤ u) ∧ (0 ≤ (F 2 b).toInt ∧ (F 2 b).toInt ≤ (F 3 b).toInt) ∧ (1 ≤ (F 3 b).toInt ∧ (F 3 b).toInt ≤ 3) ∧ (0 ≤ (F 4 b).toInt ∧ (F 4 b).toInt ≤ 9)
def FOk (u : Int) (n : Nat) (C : Nat → Int32) (F : Vw) (s : Int32) : Prop := lineOk C ∧ (0 ≤ s.toInt ∧ s.toInt ≤ (C 5).toInt) ∧ ∀ b, b < n → bOk u (C 0).toInt s.toInt F b
/-- the same with a greater slack behind -/
def gOk (n : Nat) (u : Int) (w : Int) (d : Int) (F : Vw) : Prop := ∀ b, b < n → (0 ≤ (F 0 b).toInt ∧ (F 0 b).toInt < w) ∧ (d ≤ (F 1 b).toInt ∧ (F 1 b).toInt ≤ u) ∧ (0 ≤ (F 2 b).toInt ∧ (F 2 b).toInt ≤ (F 3 b).toInt) ∧ (1 ≤ (F 3 b).toInt ∧ (F 3 b).toInt ≤ 3) ∧ (0 ≤ (F 4 b).toInt ∧ (F 4 b).toInt ≤ 9)
theorem gOk_mo {n : Nat} {u w d d' : Int} {F : Vw} (h : gOk n u w d F) (hd : d' ≤ d) : gOk n u w d' F := by
  intro b hb
  have := h b hb
  omega
theorem gOk_sp {n b : Nat} {u w d : Int} {F : Vw} {x : Int32} (h : gOk n u w d F) (hx : b < n → 0 ≤ x.toInt ∧ x.toInt ≤ (F 3 b).toInt) : gOk n u w d (vup F 2 b x) := by
  intro i hi
  have := h i hi
  by_cases e : i = b
  · subst e
    have := hx hi
    simp only [vup]
    simp
    omega
  · simp only [vup_b e]
    exact this
theorem gOk_bk {n b : Nat} {u w d d' : Int} {F : Vw} {x : Int32} (h : gOk n u w d F) (hd : d' ≤ d) (hx : b < n → d' ≤ x.toInt ∧ x.toInt ≤ u) : gOk n u w d' (vup F 1 b x) := by
  intro i hi
  have := h i hi
  by_cases e : i = b
  · subst e
    have := hx hi
    simp only [vup]
    simp
    omega
  · simp only [vup_b e]
    omega
theorem gOk_sailN {n b : Nat} {u w : Int} (hb : b < n) : ∀ (k : Nat) (d : Int) (F : Vw), -100000 ≤ d - k → gOk n u w d F → gOk n u w (d - k) (sailN n b k F) := by
  intro k
  induction k with
  | zero => intro d F _ h; simpa [sailN] using h
  | succ k ih =>
    intro d F hd h
    rw [sailN]
    rcases Classical.em (held n F (F 0 b) (F 1 b - 1)) with q | q
    · rw [cif_t q]
      refine gOk_mo (gOk_sp h (fun hb => ?_)) (by omega)
      have := h b hb
      rw [i_0]
      omega
    · rw [cif_f q]
      have hF := h b hb
      have e := i_sub1 (x := F 1 b) (by omega)
      have := ih (d - 1) (vup F 1 b (F 1 b - 1)) (by omega) (gOk_bk h (by omega) (fun _ => by rw [e]; omega))
      rw [show d - ((k + 1 : Nat) : Int) = d - 1 - (k : Int) by omega]
      exact this
theorem cl_sub {x y : Int32} (hx : 0 ≤ x.toInt ∧ x.toInt ≤ 3) (hy : y = 0 ∨ y = 1) : (x - y).toNatClampNeg ≤ 3 := by
  have hy2 : 0 ≤ y.toInt ∧ y.toInt ≤ 1 := by rcases hy with rfl | rfl <;> decide
  rw [Int32.toNatClampNeg, i_sub (by omega)]
  omega
theorem gOk_goN {n : Nat} {u w : Int} {Sh B : Nat → Int32} (hS : ∀ b, Sh b = 0 ∨ Sh b = 1) : ∀ (k : Nat) (d : Int) (F : Vw), k ≤ n → -100000 ≤ d - 3 * k → gOk n u w d F → gOk n u w (d - 3 * k) (goN n Sh B k F) := by
  intro k
  induction k with
  | zero => intro d F _ _ h; simpa [goN] using h
  | succ k ih =>
    intro d F hk hd h
    have h1 := ih d F (by omega) (by omega) h
    rw [goN, sailV]
    have ho := (ordN_sp (B := B) (show k < n by omega)).1
    have hF := h1 _ ho
    have hc := cl_sub (x := goN n Sh B k F 2 (ordN n B k)) (by omega) (hS (ordN n B k))
    exact gOk_mo (gOk_sailN ho _ _ _ (by omega) h1) (by omega)
theorem gOk_tide {n : Nat} {u w d : Int} {F : Vw} (hd : -100000 ≤ d) (h : gOk n u w d F) : gOk n u w (d - 1) (tideV n F) := by
  intro b hb
  have hF := h b hb
  have e := i_sub1 (x := F 1 b) (by omega)
  have t0 : tideV n F 0 b = F 0 b := by simp [tideV]
  have t1 : tideV n F 1 b = F 1 b - 1 := by simp only [tideV, hb, if_true]
  have t2 : tideV n F 2 b = F 2 b := by simp [tideV]
  have t3 : tideV n F 3 b = F 3 b := by simp [tideV]
  have t4 : tideV n F 4 b = F 4 b := by simp [tideV]
  rw [t0, t1, t2, t3, t4, e]
  omega
theorem gOk_early {n : Nat} {u w d : Int} {F : Vw} (h : gOk n u w d F) : gOk n u w d (earlyV n F) := by
  intro b hb
  have hF := h b hb
  simpa [earlyV] using hF
theorem gOk_driftB {n c : Nat} {u w d : Int} (hc : (c : Int) + 1 < w) (hw : w ≤ 20) : ∀ (i : Nat) (F : Vw), i ≤ n → gOk n u w d F → gOk n u w d (driftB n c i F) := by
  intro i
  induction i with
  | zero => intro F _ h; exact h
  | succ i ih =>
    intro F hi h
    have h1 := ih F (by omega) h
    rw [driftB]
    rcases Classical.em ((driftB n c i F) 0 i = nI c ∧ ¬ held n (driftB n c i F) (nI (c + 1)) ((driftB n c i F) 1 i)) with q | q
    · rw [cif_t q]
      intro b hb
      have := h1 b hb
      by_cases e : b = i
      · subst e
        simp only [vup]
        simp
        rw [jn_toInt (by omega)]
        omega
      · simp only [vup_b e]; exact this
    · rw [cif_f q]; exact h1
theorem gOk_driftC {n : Nat} {u w d : Int} (hw : w ≤ 20) : ∀ (c : Nat) (F : Vw), (c : Int) < w → gOk n u w d F → gOk n u w d (driftC n c F) := by
  intro c
  induction c with
  | zero => intro F _ h; exact h
  | succ c ih => intro F hc h; exact ih _ (by omega) (gOk_driftB (by omega) hw n F (Nat.le_refl _) h)
theorem FOk_g {u : Int} {n : Nat} {C : Nat → Int32} {F : Vw} {s : Int32} (h : FOk u n C F s) : gOk n u (C 0).toInt (-(30 * s.toInt)) F := h.2.2
theorem FOk_move {u : Int} {n : Nat} {C Sh B : Nat → Int32} {F F0 : Vw} {s : Int32} (hn : n ≤ 8) (h0 : FOk u n C F0 s) (hs : s.toInt < (C 5).toInt) (hS : ∀ b, Sh b = 0 ∨ Sh b = 1) (h : gOk n u (C 0).toInt (-(30 * s.toInt)) F) : FOk u n C (moveV n C Sh B F s) (s + 1) := by
  obtain ⟨hl, hs0, -⟩ := h0
  have hl' := hl
  obtain ⟨l0, l1, l2, l3, l4, l5, l6⟩ := hl
  have e := i_add1 (x := s) (by omega)
  refine ⟨hl', by omega, ?_⟩
  show gOk n u (C 0).toInt (-(30 * (s + 1).toInt)) (moveV n C Sh B F s)
  have g1 := gOk_goN (B := B) hS n _ F (Nat.le_refl _) (by omega) h
  have g2 : gOk n u (C 0).toInt (-(30 * s.toInt) - 3 * n - 1) (tideM n C (s + 1) (goN n Sh B n F)) := by
    unfold tideM
    rcases Classical.em (comes (C 3) (s + 1)) with q | q
    · rw [cif_t q]; exact gOk_tide (by omega) g1
    · rw [cif_f q]; exact gOk_mo g1 (by omega)
  have g3 : gOk n u (C 0).toInt (-(30 * s.toInt) - 3 * n - 1) (driftM n C (s + 1) (tideM n C (s + 1) (goN n Sh B n F))) := by
    unfold driftM
    rcases Classical.em (comes (C 4) (s + 1)) with q | q
    · rw [cif_t q]; exact gOk_driftC l0.2 _ _ (by rw [Int32.toNatClampNeg]; omega) g2
    · rw [cif_f q]; exact g2
  unfold moveV earlyM
  rcases Classical.em (9 < C 5 - (s + 1)) with q | q
  · rw [cif_t q]; exact gOk_mo g3 (by omega)
  · rw [cif_f q]; exact gOk_mo (gOk_early g3) (by omega)
theorem asp_ok {v m w : Int32} (h : 0 ≤ v.toInt ∧ v.toInt ≤ m.toInt) (hm : m.toInt ≤ 3) : 0 ≤ (asp v m w).toInt ∧ (asp v m w).toInt ≤ m.toInt := by
  unfold asp
  by_cases h1 : 0 < w
  · rw [if_pos h1]
    by_cases h2 : v < m
    · rw [if_pos h2, i_add1 (by omega)]
      rw [Int32.lt_iff_toInt_lt] at h2
      omega
    · rw [if_neg h2]; exact h
  · rw [if_neg h1]
    by_cases h3 : w < 0
    · rw [if_pos h3]
      by_cases h2 : 0 < v
      · rw [if_pos h2, i_sub1 (by omega)]
        rw [Int32.lt_iff_toInt_lt, i_0] at h2
        omega
      · rw [if_neg h2]; exact h
    · rw [if_neg h3]; exact h
theorem gOk_ask {n : Nat} {u w d : Int} {C : Nat → Int32} {R : RF} {F : Vw} {s skip : Int32} (h : gOk n u w d F) : gOk n u w d (askV n C R F s skip) := by
  intro b hb
  have hF := h b hb
  simp only [askV, hb, if_true]
  simp
  by_cases q : nI b = skip
  · rw [if_pos q]; exact hF
  · rw [if_neg q]
    have := asp_ok (v := F 2 b) (m := F 3 b) (w := R (F 5 b) (lettV n C F s b)) (by omega) (by omega)
    omega
theorem shV_or (n : Nat) (F : Vw) (b : Nat) : shV n F b = 0 ∨ shV n F b = 1 := b2i_or _
theorem FOk_pass {u : Int} {n : Nat} {C : Nat → Int32} {R : RF} {F : Vw} {s : Int32} (hn : n ≤ 8) (h : FOk u n C F s) (hs : s.toInt < (C 5).toInt) : FOk u n C (passV n C R F s) (s + 1) :=
  FOk_move hn h hs (shV_or n F) (gOk_ask (FOk_g h))
theorem FOk_passH {u : Int} {n b : Nat} {C : Nat → Int32} {R : RF} {F : Vw} {s : Int32} (hn : n ≤ 8) (h : FOk u n C F s) (hs : s.toInt < (C 5).toInt) : FOk u n C (passH n C R b F s) (s + 1) :=
  FOk_move hn h hs (shV_or n F) (gOk_sp (gOk_ask (FOk_g h)) (fun hb => by
    have := gOk_ask (C := C) (R := R) (s := s) (skip := nI b) (FOk_g h) b hb
    rw [i_0]
    omega))
theorem FOk_passR {u : Int} {n b : Nat} {C : Nat → Int32} {R : RF} {F : Vw} {s : Int32} (hn : n ≤ 8) (h : FOk u n C F s) (hs : s.toInt < (C 5).toInt) : FOk u n C (passR n C R b F s) (s + 1) :=
  FOk_move hn h hs (shV_or n F) (gOk_sp (gOk_ask (FOk_g h)) (fun hb => by
    have hF := FOk_g h b hb
    exact asp_ok (v := F 2 b) (m := F 3 b) (by omega) (by omega)))
