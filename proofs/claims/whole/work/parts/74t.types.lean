/-! ===== what a reader reads is typed; clauses ===== -/
theorem tyL_app {xs ys : List Int32} : ∀ {ks k1 k2 : List Bool}, tyL xs ks = some k1 → tyL ys k1 = some k2 → tyL (xs ++ ys) ks = some k2 := by
  induction xs with
  | nil => intro ks k1 k2 h1 h2; cases h1; exact h2
  | cons x xs ih =>
    intro ks k1 k2 h1 h2
    rw [List.cons_append, tyL]
    rw [tyL] at h1
    cases hx : tyS x ks with
    | none => rw [hx] at h1; cases h1
    | some k => rw [hx] at h1; exact ih h1 h2
theorem tyL_1 {x : Int32} {ks k : List Bool} (h : tyS x ks = some k) : tyL [x] ks = some k := by rw [tyL, h]; rfl
def tyA (A : Nat → PR) (d : Nat) (b : Bool) : Prop := ∀ p r, A p = .ok r → ∀ ks : List Bool, ks.length + d ≤ 30 → tyL r.2 ks = some (b :: ks)
theorem tyA_mo {A : Nat → PR} {d e : Nat} {b : Bool} (h : tyA A d b) (hde : d ≤ e) : tyA A e b := fun p r hr ks hk => h p r hr ks (by omega)
theorem num_lt {t : Nat} {τ : Nat → Int32} {p : Nat} {r : Nat × Nat} (h : numR t τ 4 p = .ok r) : r.2 < 10000 := by
  unfold numR at h
  by_cases q : isD (nsg t τ p)
  · rw [cif_t q] at h
    by_cases q2 : isD (sg t τ (nmV t τ 4 (skp t τ p) 0).1)
    · rw [cif_t q2] at h; cases h
    · rw [cif_f q2] at h
      cases h
      have := (nmV_b (t := t) (τ := τ) 4 (skp t τ p) 0).2.2.2
      omega
  · rw [cif_f q] at h; cases h
theorem tyS_lt {x : Int32} {ks : List Bool} (h0 : 0 ≤ x.toInt) (h1 : x.toInt < 10007) (hk : ks.length < 30) : tyS x ks = some (false :: ks) := by
  unfold tyS
  rw [if_pos ⟨h0, h1⟩, if_pos hk]
theorem tyA_at {t : Nat} {τ : Nat → Int32} {S : Option (Nat → PR)} {d : Nat} (hd : 1 ≤ d) (hS : ∀ s, S = some s → tyA s d false) : tyA (atP t τ S) d false := by
  intro p r hr ks hk
  unfold atP at hr
  by_cases q : nsg t τ p = 91
  · rw [if_pos q] at hr
    cases S with
    | none => cases hr
    | some s =>
      obtain ⟨q1, h, g⟩ := pgo_ok hr
      split at g
      · cases g; exact hS s rfl _ _ h ks hk
      · cases g
  · rw [if_neg q] at hr
    by_cases q2 : ltr (nsg t τ p) = -1
    · rw [if_pos q2] at hr
      cases hn : numR t τ 4 (skp t τ p) with
      | error e => rw [hn] at hr; cases hr
      | ok y =>
        have hy := num_lt hn
        rw [hn] at hr
        cases hr
        have e := jn_toInt (a := y.2) (by omega)
        exact tyL_1 (tyS_lt (by rw [e]; omega) (by rw [e]; omega) (by omega))
    · rw [if_neg q2] at hr
      cases hr
      have hb := ltr_b q2
      have e : (10000 + ltr (nsg t τ p)).toInt = 10000 + (ltr (nsg t τ p)).toInt := i_add (x := 10000) (by rw [show (10000 : Int32).toInt = 10000 from rfl]; omega)
      exact tyL_1 (tyS_lt (by rw [e]; omega) (by rw [e]; omega) (by omega))
def opOk (op : Int32 → Int32) (b : Bool) : Prop := ∀ s, ¬ op s = 0 → ∀ ks : List Bool, tyS (op s) (b :: b :: ks) = some (b :: ks)
theorem opT_ok : opOk opT false := by
  intro s h ks
  unfold opT at h ⊢
  by_cases q : s = 42
  · rw [if_pos q]; rfl
  · rw [if_neg q] at h ⊢
    by_cases q2 : s = 47
    · rw [if_pos q2]; rfl
    · rw [if_neg q2] at h; exact absurd rfl h
theorem opS_ok : opOk opS false := by
  intro s h ks
  unfold opS at h ⊢
  by_cases q : s = 43
  · rw [if_pos q]; rfl
  · rw [if_neg q] at h ⊢
    by_cases q2 : s = 45
    · rw [if_pos q2]; rfl
    · rw [if_neg q2] at h; exact absurd rfl h
theorem opA_ok : opOk opA true := by
  intro s h ks
  unfold opA at h ⊢
  by_cases q : s = 38
  · rw [if_pos q]; rfl
  · rw [if_neg q] at h; exact absurd rfl h
theorem opO_ok : opOk opO true := by
  intro s h ks
  unfold opO at h ⊢
  by_cases q : s = 124
  · rw [if_pos q]; rfl
  · rw [if_neg q] at h; exact absurd rfl h
theorem cmO_ok {s : Int32} (h : ¬ cmO s = 0) (ks : List Bool) : tyS (cmO s) (false :: false :: ks) = some (true :: ks) := by
  unfold cmO at h ⊢
  by_cases q : s = 60
  · rw [if_pos q]; rfl
  · rw [if_neg q] at h ⊢
    by_cases q2 : s = 61
    · rw [if_pos q2]; rfl
    · rw [if_neg q2] at h ⊢
      by_cases q3 : s = 62
      · rw [if_pos q3]; rfl
      · rw [if_neg q3] at h; exact absurd rfl h
theorem ty_lp {t : Nat} {τ : Nat → Int32} {op : Int32 → Int32} {A : Nat → PR} {d : Nat} {b : Bool} (ho : opOk op b) (hA : tyA A d b) : ∀ (f p : Nat) (xs : List Int32) (r : Nat × List Int32) (k0 ks : List Bool), lpP t τ op A f p xs = .ok r → ks.length + (d + 1) ≤ 30 → tyL xs k0 = some (b :: ks) → tyL r.2 k0 = some (b :: ks) := by
  intro f
  induction f with
  | zero => intro p xs r k0 ks h _ hx; cases h; exact hx
  | succ f ih =>
    intro p xs r k0 ks h hk hx
    rw [lpP] at h
    by_cases q : op (nsg t τ p) = 0
    · rw [if_pos q] at h; cases h; exact hx
    · rw [if_neg q] at h
      obtain ⟨q1, h1, g⟩ := pgo_ok h
      refine ih q1.1 _ r k0 ks g hk ?_
      exact tyL_app (tyL_app hx (hA _ _ h1 (b :: ks) (by rw [List.length_cons]; omega))) (tyL_1 (ho _ q ks))
theorem tyA_gn {t : Nat} {τ : Nat → Int32} {op : Int32 → Int32} {F A : Nat → PR} {d : Nat} {b : Bool} (ho : opOk op b) (hF : tyA F d b) (hA : tyA A d b) : tyA (gnQ t τ op F A) (d + 1) b := by
  intro p r hr ks hk
  unfold gnQ at hr
  obtain ⟨q1, h1, g⟩ := pgo_ok hr
  exact ty_lp ho hA _ _ _ _ ks ks g hk (hF _ _ h1 ks (by omega))
theorem ty_lvl {t : Nat} {τ : Nat → Int32} : ∀ k s, lvl t τ k = some s → tyA s (2 * k + 1) false := by
  intro k
  induction k with
  | zero => intro s h; cases h
  | succ k ih =>
    intro s h
    rw [lvl] at h
    cases h
    have ha := tyA_at (t := t) (τ := τ) (d := 2 * k + 1) (by omega) ih
    have ht := tyA_gn (t := t) (τ := τ) opT_ok ha ha
    exact tyA_gn opS_ok ht ht
theorem ty_smW {t : Nat} {τ : Nat → Int32} {w : Nat} : tyA (smW t τ w) 15 false := by
  have ha : tyA (atW t τ w) 13 false := tyA_mo (tyA_at (d := 2 * (6 - w) + 1) (by omega) (ty_lvl (6 - w))) (by omega)
  have ht : tyA (tmW t τ w) 14 false := tyA_gn opT_ok ha ha
  exact tyA_gn opS_ok ht ht
theorem ty_cmW {t : Nat} {τ : Nat → Int32} {w p : Nat} {r : Nat × List Int32} (h : cmW t τ w p = .ok r) {ks : List Bool} (hk : ks.length + 16 ≤ 30) : tyL r.2 (false :: ks) = some (true :: ks) := by
  unfold cmW at h
  by_cases q : cmO (nsg t τ p) = 0
  · rw [if_pos q] at h; cases h
  · rw [if_neg q] at h
    obtain ⟨q1, h1, g⟩ := pgo_ok h
    cases g
    exact tyL_app (ty_smW _ _ h1 (false :: ks) (by rw [List.length_cons]; omega)) (tyL_1 (cmO_ok q ks))
theorem tyA_un {t : Nat} {τ : Nat → Int32} {w : Nat} {U : Option ((Nat → PR) × (Nat → PR))} {d : Nat} (hd : 16 ≤ d) (hU : ∀ u, U = some u → tyA u.1 d true ∧ tyA u.2 d true) : tyA (unP t τ w U) d true := by
  intro p r hr ks hk
  unfold unP at hr
  by_cases q : nsg t τ p = 33
  · rw [if_pos q] at hr
    cases U with
    | none => cases hr
    | some u =>
      obtain ⟨q1, h1, g⟩ := pgo_ok hr
      cases g
      exact tyL_app ((hU u rfl).1 _ _ h1 ks hk) (tyL_1 rfl)
  · rw [if_neg q] at hr
    by_cases q : nsg t τ p = 40
    · rw [if_pos q] at hr
      cases U with
      | none => cases hr
      | some u =>
        obtain ⟨q1, h1, g⟩ := pgo_ok hr
        split at g
        · cases g; exact (hU u rfl).2 _ _ h1 ks hk
        · cases g
    · rw [if_neg q] at hr
      obtain ⟨q1, h1, g⟩ := pgo_ok hr
      obtain ⟨q2, h2, g⟩ := pgo_ok g
      cases g
      exact tyL_app (ty_smW _ _ h1 ks (by omega)) (ty_cmW h2 (by omega))
theorem ty_lvU {t : Nat} {τ : Nat → Int32} : ∀ k u, lvU t τ k = some u → tyA u.1 (16 + 2 * k) true ∧ tyA u.2 (16 + 2 * k) true := by
  intro k
  induction k with
  | zero => intro u h; cases h
  | succ k ih =>
    intro u h
    rw [lvU] at h
    cases h
    have ha := tyA_un (t := t) (τ := τ) (w := 6 - k) (d := 16 + 2 * k) (by omega) ih
    have ht := tyA_gn (t := t) (τ := τ) opA_ok ha ha
    exact ⟨tyA_mo ha (by omega), tyA_gn opO_ok ht ht⟩
theorem ty_unW {t : Nat} {τ : Nat → Int32} : tyA (unW t τ 0) 28 true := tyA_un (by decide) (ty_lvU 6)
theorem ty_trW {t : Nat} {τ : Nat → Int32} : tyA (trW t τ 0) 29 true := tyA_gn opA_ok ty_unW ty_unW
theorem ty_cdW {t : Nat} {τ : Nat → Int32} {p : Nat} {r : Nat × List Int32} (h : cdW t τ 0 p = .ok r) : tyL r.2 [] = some [true] := tyA_gn (d := 29) opO_ok ty_trW ty_trW _ _ h [] (by decide)
theorem ty_cdX {t : Nat} {τ : Nat → Int32} {p : Nat} {r : Nat × List Int32} (h : cdX t τ 0 1 p = .ok r) : tyL r.2 [false] = some [true] := by
  unfold cdX gnQ at h
  obtain ⟨q1, h1, g⟩ := pgo_ok h
  refine ty_lp opO_ok ty_trW _ _ _ _ [false] [] g (by decide) ?_
  unfold trX gnQ at h1
  obtain ⟨q2, h2, g⟩ := pgo_ok h1
  refine ty_lp opA_ok ty_unW _ _ _ _ [false] [] g (by decide) ?_
  unfold unX at h2
  rw [if_neg (by decide)] at h2
  exact ty_cmW h2 (by decide)
theorem ty_ne {xs : List Int32} (h : tyL xs [] = some [true]) : ¬ xs = [] := fun q => by rw [q] at h; cases h
/-! clauses: how far, how long, typed -/
noncomputable def anQ (t : Nat) (τ : Nat → Int32) (p : Nat) : PR := if nsg t τ p = 63 then smW t τ 0 (skp t τ p + 1) else .error (skp t τ p)
theorem anP_Q {t : Nat} {τ : Nat → Int32} {p : Nat} {xs : List Int32} : anP t τ p xs = pgo (anQ t τ p) (fun p1 ys => .ok (p1, (xs, ys))) := by
  unfold anP anQ
  by_cases q : nsg t τ p = 63
  · rw [if_pos q, if_pos q]
  · rw [if_neg q, if_neg q]; rfl
theorem pOk_an {t : Nat} {τ : Nat → Int32} : pOk t (anQ t τ) := by
  intro p hp
  have h1 := skp_le (τ := τ) hp
  have h2 := skp_ge (t := t) (τ := τ) (p := p)
  unfold anQ
  by_cases q : nsg t τ p = 63
  · rw [if_pos q]
    have h3 := nsg_p q (by decide)
    obtain ⟨a1, a2⟩ := pOk_smW (τ := τ) (w := 0) (skp t τ p + 1) h3
    exact ⟨a1, fun r h => by have := a2 r h; omega⟩
  · rw [if_neg q]; exact ⟨fun e h => by cases h; exact h1, fun r h => by cases h⟩
theorem an_len {t : Nat} {τ : Nat → Int32} {p : Nat} {r : Nat × List Int32} (hp : p ≤ t) (h : anQ t τ p = .ok r) : p + 1 + r.2.length ≤ r.1 := by
  unfold anQ at h
  by_cases q : nsg t τ p = 63
  · rw [if_pos q] at h
    have h2 := skp_ge (t := t) (τ := τ) (p := p)
    have := (pOk_smW (τ := τ) (w := 0) (skp t τ p + 1) (nsg_p q (by decide))).2 r h
    omega
  · rw [if_neg q] at h; cases h
/-- a clause behind its y and colon -/
theorem bd_ok {t : Nat} {τ : Nat → Int32} {p : Nat} (hp : p ≤ t) : (∀ e, bdP t τ p = .error e → e ≤ t) ∧ ∀ r, bdP t τ p = .ok r → p < r.1 ∧ r.1 ≤ t ∧ clOk r.2 ∧ ∀ o, (blkC o r.2.1 r.2.2).length + p ≤ r.1 + 1 := by
  have h1 := skp_le (τ := τ) hp
  have h2 := skp_ge (t := t) (τ := τ) (p := p)
  have ans : ∀ (p1 : Nat) (xs : List Int32), p1 ≤ t → (∀ e, anP t τ p1 xs = .error e → e ≤ t) ∧ ∀ r, p + xs.length ≤ p1 → tyL xs [] = some [true] → anP t τ p1 xs = .ok r → p < r.1 ∧ r.1 ≤ t ∧ clOk r.2 ∧ ∀ o, (blkC o r.2.1 r.2.2).length + p ≤ r.1 + 1 := by
    intro p1 xs hp1
    rw [anP_Q]
    obtain ⟨a1, a2⟩ := pOk_an (τ := τ) p1 hp1
    refine ⟨fun e h => ?_, fun r hl hx h => ?_⟩
    · rcases pgo_err h with h | ⟨q1, h, g⟩
      · exact a1 e h
      · cases g
    · obtain ⟨q1, hq, g⟩ := pgo_ok h
      have b1 := a2 q1 hq
      have b2 := an_len hp1 hq
      have ty2 : tyL q1.2 [] = some [false] := by
        unfold anQ at hq
        split at hq
        · exact ty_smW _ _ hq [] (by decide)
        · cases hq
      cases g
      refine ⟨by show p < q1.1; omega, b1.2.1, ⟨Or.inr hx, ty2⟩, fun o => ?_⟩
      · show (blkC o xs q1.2).length + p ≤ q1.1 + 1
        unfold blkC
        rw [if_neg (ty_ne hx), List.length_append, List.length_cons, List.length_append, List.length_singleton]
        omega
  unfold bdP
  by_cases q : nsg t τ p = 33 ∨ nsg t τ p = 40
  · rw [if_pos q]
    obtain ⟨a1, a2⟩ := pOk_cdW (τ := τ) (w := 0) (skp t τ p) h1
    refine ⟨fun e h => ?_, fun r h => ?_⟩
    · rcases pgo_err h with h | ⟨q1, h, g⟩
      · exact a1 e h
      · exact (ans q1.1 q1.2 (a2 q1 h).2.1).1 e g
    · obtain ⟨q1, h, g⟩ := pgo_ok h
      have b1 := a2 q1 h
      exact (ans q1.1 q1.2 b1.2.1).2 r (by omega) (ty_cdW h) g
  · rw [if_neg q]
    obtain ⟨a1, a2⟩ := pOk_smW (τ := τ) (w := 0) (skp t τ p) h1
    refine ⟨fun e h => ?_, fun r h => ?_⟩
    · rcases pgo_err h with h | ⟨q1, h, g⟩
      · exact a1 e h
      · have b1 := a2 q1 h
        split at g
        · cases g
        · have k1 := skp_le (τ := τ) b1.2.1
          obtain ⟨c1, c2⟩ := pOk_cdX (τ := τ) (w := 0) (b := 1) (skp t τ q1.1) k1
          rcases pgo_err g with g | ⟨q2, g, g'⟩
          · exact c1 e g
          · exact (ans q2.1 _ (c2 q2 g).2.1).1 e g'
    · obtain ⟨q1, h, g⟩ := pgo_ok h
      have b1 := a2 q1 h
      have k1 := skp_le (τ := τ) b1.2.1
      have k2 := skp_ge (t := t) (τ := τ) (p := q1.1)
      have ty1 := ty_smW _ _ h [] (by decide)
      split at g
      · cases g
        refine ⟨by show p < skp t τ q1.1; omega, k1, ⟨Or.inl rfl, ty1⟩, fun o => ?_⟩
        show (blkC o [] q1.2).length + p ≤ skp t τ q1.1 + 1
        unfold blkC
        rw [if_pos rfl, List.length_append, List.length_singleton]
        omega
      · obtain ⟨c1, c2⟩ := pOk_cdX (τ := τ) (w := 0) (b := 1) (skp t τ q1.1) k1
        obtain ⟨q2, g, g'⟩ := pgo_ok g
        have d1 := c2 q2 g
        exact (ans q2.1 _ d1.2.1).2 r (by rw [List.length_append]; omega) (tyL_app ty1 (ty_cdX g)) g'
theorem cl_ok {t : Nat} {τ : Nat → Int32} {p : Nat} (hp : p ≤ t) : (∀ e, clP t τ p = .error e → e ≤ t) ∧ ∀ r, clP t τ p = .ok r → p + 2 < r.1 ∧ r.1 ≤ t ∧ clOk r.2 ∧ ∀ o, (blkC o r.2.1 r.2.2).length + p + 1 ≤ r.1 := by
  have h1 := skp_le (τ := τ) hp
  have h2 := skp_ge (t := t) (τ := τ) (p := p)
  unfold clP
  by_cases q : nsg t τ p = 121
  · rw [if_pos q]
    have h3 : skp t τ p + 1 ≤ t := nsg_p q (by decide)
    have h4 := skp_le (τ := τ) h3
    have h5 := skp_ge (t := t) (τ := τ) (p := skp t τ p + 1)
    by_cases q2 : nsg t τ (skp t τ p + 1) = 58
    · rw [if_pos q2]
      obtain ⟨a1, a2⟩ := bd_ok (τ := τ) (p := skp t τ (skp t τ p + 1) + 1) (nsg_p q2 (by decide))
      refine ⟨a1, fun r h => ?_⟩
      obtain ⟨b1, b2, b3, b4⟩ := a2 r h
      exact ⟨by omega, b2, b3, fun o => by have := b4 o; omega⟩
    · rw [if_neg q2]; exact ⟨fun e h => by cases h; exact h4, fun r h => by cases h⟩
  · rw [if_neg q]; exact ⟨fun e h => by cases h; exact h1, fun r h => by cases h⟩
theorem flatK_app {o : Nat} {ks : List (List Int32 × List Int32)} {c : List Int32 × List Int32} : flatK o (ks ++ [c]) = flatK o ks ++ blkC (o + (flatK o ks).length) c.1 c.2 := by
  induction ks generalizing o with
  | nil =>
    show blkC o c.1 c.2 ++ flatK _ [] = [] ++ blkC (o + 0) c.1 c.2
    rw [flatK, List.append_nil]; rfl
  | cons k ks ih =>
    obtain ⟨a, b⟩ := k
    rw [List.cons_append, flatK, flatK, ih, List.append_assoc, List.length_append, Nat.add_assoc]
def faR {α : Type} (r : Except Nat α) : Int32 := match r with
  | .error e => nI e
  | .ok _ => -1
