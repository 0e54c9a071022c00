/-! ===== rules told as texts: a pure reader ===== -/
abbrev PR : Type := Except Nat (Nat × List Int32)
abbrev CR : Type := Except Nat (Nat × (List Int32 × List Int32))
def ltr (s : Int32) : Int32 := if s = 98 then 0 else if s = 116 then 1 else if s = 118 then 2 else if s = 120 then 3 else if s = 99 then 4 else if s = 119 then 5 else if s = 108 then 6 else -1
def opT (s : Int32) : Int32 := if s = 42 then 20002 else if s = 47 then 20003 else 0
def opS (s : Int32) : Int32 := if s = 43 then 20000 else if s = 45 then 20001 else 0
def opA (s : Int32) : Int32 := if s = 38 then 20007 else 0
def opO (s : Int32) : Int32 := if s = 124 then 20008 else 0
def cmO (s : Int32) : Int32 := if s = 60 then 20005 else if s = 61 then 20004 else if s = 62 then 20006 else 0
/-- on where a piece was read -/
def pgo {α : Type} (r : PR) (f : Nat → List Int32 → Except Nat α) : Except Nat α := match r with
  | .error e => .error e
  | .ok q => f q.1 q.2
theorem pgo_e {α : Type} {r : PR} {f : Nat → List Int32 → Except Nat α} {e : Nat} (h : r = .error e) : pgo r f = .error e := by rw [h]; rfl
theorem pgo_o {α : Type} {r : PR} {f : Nat → List Int32 → Except Nat α} {q : Nat × List Int32} (h : r = .ok q) : pgo r f = f q.1 q.2 := by rw [h]; rfl
theorem pgo_err {α : Type} {r : PR} {f : Nat → List Int32 → Except Nat α} {e : Nat} (h : pgo r f = .error e) : r = .error e ∨ ∃ q, r = .ok q ∧ f q.1 q.2 = .error e := by
  cases hr : r with
  | error x => left; rw [hr] at h; cases h; rfl
  | ok q => right; rw [hr] at h; exact ⟨q, rfl, h⟩
theorem pgo_ok {α : Type} {r : PR} {f : Nat → List Int32 → Except Nat α} {y : α} (h : pgo r f = .ok y) : ∃ q, r = .ok q ∧ f q.1 q.2 = .ok y := by
  cases hr : r with
  | error x => rw [hr] at h; cases h
  | ok q => rw [hr] at h; exact ⟨q, rfl, h⟩
def ngo {α : Type} (r : Except Nat (Nat × Nat)) (f : Nat → Nat → Except Nat α) : Except Nat α := match r with
  | .error e => .error e
  | .ok q => f q.1 q.2
noncomputable def atP (t : Nat) (τ : Nat → Int32) (S : Option (Nat → PR)) (p : Nat) : PR :=
  if nsg t τ p = 91 then (match S with
    | none => .error (skp t τ p)
    | some s => pgo (s (skp t τ p + 1)) (fun p1 xs => if nsg t τ p1 = 93 then .ok (skp t τ p1 + 1, xs) else .error (skp t τ p1)))
  else if ltr (nsg t τ p) = -1 then ngo (numR t τ 4 (skp t τ p)) (fun p1 v => .ok (p1, [nI v]))
  else .ok (skp t τ p + 1, [10000 + ltr (nsg t τ p)])
noncomputable def lpP (t : Nat) (τ : Nat → Int32) (op : Int32 → Int32) (A : Nat → PR) : Nat → Nat → List Int32 → PR
  | 0, p, xs => .ok (p, xs)
  | f + 1, p, xs => if op (nsg t τ p) = 0 then .ok (skp t τ p, xs) else pgo (A (skp t τ p + 1)) (fun p1 ys => lpP t τ op A f p1 (xs ++ ys ++ [op (nsg t τ p)]))
noncomputable def gnQ (t : Nat) (τ : Nat → Int32) (op : Int32 → Int32) (F A : Nat → PR) (p : Nat) : PR := pgo (F p) (fun p1 xs => lpP t τ op A (t + 1 - p1) p1 xs)
noncomputable def lvl (t : Nat) (τ : Nat → Int32) : Nat → Option (Nat → PR)
  | 0 => none
  | k + 1 => some (gnQ t τ opS (gnQ t τ opT (atP t τ (lvl t τ k)) (atP t τ (lvl t τ k))) (gnQ t τ opT (atP t τ (lvl t τ k)) (atP t τ (lvl t τ k))))
noncomputable def atW (t : Nat) (τ : Nat → Int32) (w : Nat) : Nat → PR := atP t τ (lvl t τ (6 - w))
noncomputable def tmW (t : Nat) (τ : Nat → Int32) (w : Nat) : Nat → PR := gnQ t τ opT (atW t τ w) (atW t τ w)
noncomputable def smW (t : Nat) (τ : Nat → Int32) (w : Nat) : Nat → PR := gnQ t τ opS (tmW t τ w) (tmW t τ w)
theorem lvl_lt {t : Nat} {τ : Nat → Int32} {w : Nat} (h : w < 6) : lvl t τ (6 - w) = some (smW t τ (w + 1)) := by
  rw [show 6 - w = (6 - (w + 1)) + 1 by omega]; rfl
theorem lvl_6 {t : Nat} {τ : Nat → Int32} {w : Nat} (h : ¬ w < 6) : lvl t τ (6 - w) = none := by
  rw [show 6 - w = 0 by omega]; rfl
noncomputable def cmW (t : Nat) (τ : Nat → Int32) (w p : Nat) : PR := if cmO (nsg t τ p) = 0 then .error (skp t τ p) else pgo (smW t τ w (skp t τ p + 1)) (fun p1 xs => .ok (p1, xs ++ [cmO (nsg t τ p)]))
noncomputable def unP (t : Nat) (τ : Nat → Int32) (w : Nat) (U : Option ((Nat → PR) × (Nat → PR))) (p : Nat) : PR :=
  if nsg t τ p = 33 then (match U with
    | none => .error (skp t τ p)
    | some u => pgo (u.1 (skp t τ p + 1)) (fun p1 xs => .ok (p1, xs ++ [20009])))
  else if nsg t τ p = 40 then (match U with
    | none => .error (skp t τ p)
    | some u => pgo (u.2 (skp t τ p + 1)) (fun p1 xs => if nsg t τ p1 = 41 then .ok (skp t τ p1 + 1, xs) else .error (skp t τ p1)))
  else pgo (smW t τ w (skp t τ p)) (fun p1 xs => pgo (cmW t τ w p1) (fun p2 ys => .ok (p2, xs ++ ys)))
noncomputable def lvU (t : Nat) (τ : Nat → Int32) : Nat → Option ((Nat → PR) × (Nat → PR))
  | 0 => none
  | k + 1 => some (unP t τ (6 - k) (lvU t τ k), gnQ t τ opO (gnQ t τ opA (unP t τ (6 - k) (lvU t τ k)) (unP t τ (6 - k) (lvU t τ k))) (gnQ t τ opA (unP t τ (6 - k) (lvU t τ k)) (unP t τ (6 - k) (lvU t τ k))))
noncomputable def unW (t : Nat) (τ : Nat → Int32) (w : Nat) : Nat → PR := unP t τ w (lvU t τ (6 - w))
noncomputable def trW (t : Nat) (τ : Nat → Int32) (w : Nat) : Nat → PR := gnQ t τ opA (unW t τ w) (unW t τ w)
noncomputable def cdW (t : Nat) (τ : Nat → Int32) (w : Nat) : Nat → PR := gnQ t τ opO (trW t τ w) (trW t τ w)
theorem lvU_lt {t : Nat} {τ : Nat → Int32} {w : Nat} (h : w < 6) : lvU t τ (6 - w) = some (unW t τ (w + 1), cdW t τ (w + 1)) := by
  rw [show 6 - w = (6 - (w + 1)) + 1 by omega, lvU]
  unfold cdW trW unW
  rw [show 6 - (6 - (w + 1)) = w + 1 by omega]
theorem lvU_6 {t : Nat} {τ : Nat → Int32} {w : Nat} (h : ¬ w < 6) : lvU t τ (6 - w) = none := by
  rw [show 6 - w = 0 by omega]; rfl
/-- begun: its first sum has been read -/
noncomputable def unX (t : Nat) (τ : Nat → Int32) (w : Nat) (b : Int32) : Nat → PR := if b = 0 then unW t τ w else cmW t τ w
noncomputable def trX (t : Nat) (τ : Nat → Int32) (w : Nat) (b : Int32) : Nat → PR := gnQ t τ opA (unX t τ w b) (unW t τ w)
noncomputable def cdX (t : Nat) (τ : Nat → Int32) (w : Nat) (b : Int32) : Nat → PR := gnQ t τ opO (trX t τ w b) (trW t τ w)
theorem unX_0 {t : Nat} {τ : Nat → Int32} {w : Nat} : unX t τ w 0 = unW t τ w := if_pos rfl
theorem trX_0 {t : Nat} {τ : Nat → Int32} {w : Nat} : trX t τ w 0 = trW t τ w := by unfold trX trW; rw [unX_0]
theorem cdX_0 {t : Nat} {τ : Nat → Int32} {w : Nat} : cdX t τ w 0 = cdW t τ w := by unfold cdX cdW; rw [trX_0]
noncomputable def anP (t : Nat) (τ : Nat → Int32) (p : Nat) (xs : List Int32) : CR := if nsg t τ p = 63 then pgo (smW t τ 0 (skp t τ p + 1)) (fun p1 ys => .ok (p1, (xs, ys))) else .error (skp t τ p)
noncomputable def bdP (t : Nat) (τ : Nat → Int32) (p : Nat) : CR :=
  if nsg t τ p = 33 ∨ nsg t τ p = 40 then pgo (cdW t τ 0 (skp t τ p)) (fun p1 xs => anP t τ p1 xs)
  else pgo (smW t τ 0 (skp t τ p)) (fun p1 xs => if cmO (nsg t τ p1) = 0 then .ok (skp t τ p1, ([], xs)) else pgo (cdX t τ 0 1 (skp t τ p1)) (fun p2 ys => anP t τ p2 (xs ++ ys)))
noncomputable def clP (t : Nat) (τ : Nat → Int32) (p : Nat) : CR := if nsg t τ p = 121 then (if nsg t τ (skp t τ p + 1) = 58 then bdP t τ (skp t τ (skp t τ p + 1) + 1) else .error (skp t τ (skp t τ p + 1))) else .error (skp t τ p)
noncomputable def rlP (t : Nat) (τ : Nat → Int32) : Nat → Nat → List (List Int32 × List Int32) → Except Nat (List (List Int32 × List Int32))
  | 0, _, ks => .ok ks
  | f + 1, p, ks => match clP t τ p with
    | .error e => .error e
    | .ok r => if nsg t τ r.1 = 59 then rlP t τ f (skp t τ r.1 + 1) (ks ++ [r.2]) else if nsg t τ r.1 = -1 then .ok (ks ++ [r.2]) else .error (skp t τ r.1)
noncomputable def ruP (t : Nat) (τ : Nat → Int32) : Except Nat (List (List Int32 × List Int32)) := rlP t τ (t + 1) 0 []
theorem ltr_b {s : Int32} (h : ¬ ltr s = -1) : 0 ≤ (ltr s).toInt ∧ (ltr s).toInt < 7 := by
  revert h
  unfold ltr
  repeat (split; · intro _; decide)
  intro h; exact absurd rfl h
theorem ltr_n {s : Int32} (h : ¬ ltr s = -1) : ¬ ltr s < 0 := by rw [Int32.lt_iff_toInt_lt, i_0]; have := ltr_b h; omega
/-! how far they go -/
def pOk (t : Nat) (A : Nat → PR) : Prop := ∀ p, p ≤ t → (∀ e, A p = .error e → e ≤ t) ∧ (∀ r, A p = .ok r → p < r.1 ∧ r.1 ≤ t ∧ r.2.length + p ≤ r.1)
theorem opT_m (h : ¬ opT (-1) = 0) : False := h (by decide)
theorem pOk_num {t : Nat} {τ : Nat → Int32} {p : Nat} (hp : p ≤ t) : (∀ e, numR t τ 4 p = .error e → e ≤ t) ∧ (∀ r, numR t τ 4 p = .ok r → p < r.1 ∧ r.1 ≤ t ∧ r.2 < 10000) := by
  have h1 := skp_le (τ := τ) hp
  have h2 := skp_ge (t := t) (τ := τ) (p := p)
  obtain ⟨b1, b2, b3, b4⟩ := nmV_b (t := t) (τ := τ) 4 (skp t τ p) 0
  unfold numR
  by_cases q : isD (nsg t τ p)
  · rw [cif_t q]
    have hlt : skp t τ p < (nmV t τ 4 (skp t τ p) 0).1 := by
      rw [nmV_s (f := 3) q]
      have := (nmV_b (t := t) (τ := τ) 3 (skp t τ p + 1) (10 * 0 + ((sg t τ (skp t τ p)).toInt - 48).toNat)).1
      omega
    by_cases q2 : isD (sg t τ (nmV t τ 4 (skp t τ p) 0).1)
    · rw [cif_t q2]
      exact ⟨fun e h => by cases h; exact b3 h1, fun r h => by cases h⟩
    · rw [cif_f q2]
      exact ⟨fun e h => (by cases h), fun r h => by cases h; exact ⟨by omega, b3 h1, by omega⟩⟩
  · rw [cif_f q]
    exact ⟨fun e h => by cases h; exact h1, fun r h => by cases h⟩
theorem pOk_at {t : Nat} {τ : Nat → Int32} {S : Option (Nat → PR)} (hS : ∀ s, S = some s → pOk t s) : pOk t (atP t τ S) := by
  intro p hp
  have h1 := skp_le (τ := τ) hp
  have h2 := skp_ge (t := t) (τ := τ) (p := p)
  unfold atP
  by_cases q : nsg t τ p = 91
  · rw [if_pos q]
    have h3 := nsg_p q (by decide)
    cases S with
    | none => exact ⟨fun e h => by cases h; exact h1, fun r h => by cases h⟩
    | some s =>
      obtain ⟨a1, a2⟩ := hS s rfl (skp t τ p + 1) h3
      refine ⟨fun e h => ?_, fun r h => ?_⟩
      · rcases pgo_err h with h | ⟨r, h, g⟩
        · exact a1 e h
        · obtain ⟨b1, b2, b3⟩ := a2 r h
          split at g
          · cases g
          · cases g; exact skp_le b2
      · obtain ⟨q1, h, g⟩ := pgo_ok h
        obtain ⟨b1, b2, b3⟩ := a2 q1 h
        split at g
        · rename_i z
          cases g
          have h4 := nsg_p z (by decide)
          have h5 := skp_ge (t := t) (τ := τ) (p := q1.1)
          exact ⟨by show p < skp t τ q1.1 + 1; omega, by show skp t τ q1.1 + 1 ≤ t; omega, by show q1.2.length + p ≤ skp t τ q1.1 + 1; omega⟩
        · cases g
  · rw [if_neg q]
    by_cases q2 : ltr (nsg t τ p) = -1
    · rw [if_pos q2]
      obtain ⟨a1, a2⟩ := pOk_num (τ := τ) h1
      cases hn : numR t τ 4 (skp t τ p) with
      | error e' => exact ⟨fun e h => by cases h; exact a1 _ hn, fun r h => by cases h⟩
      | ok y =>
        obtain ⟨b1, b2, b3⟩ := a2 y hn
        exact ⟨fun e h => (by cases h), fun r h => by cases h; exact ⟨by omega, b2, by show 1 + p ≤ y.1; omega⟩⟩
    · rw [if_neg q2]
      have h3 : skp t τ p < t := nsg_p rfl (fun w => q2 (by rw [w]; decide))
      exact ⟨fun e h => (by cases h), fun r h => by cases h; exact ⟨by omega, h3, by show 1 + p ≤ skp t τ p + 1; omega⟩⟩
theorem pOk_lp {t : Nat} {τ : Nat → Int32} {op : Int32 → Int32} {A : Nat → PR} (hm : op (-1) = 0) (hA : pOk t A) : ∀ (f p : Nat) (xs : List Int32), p ≤ t → (∀ e, lpP t τ op A f p xs = .error e → e ≤ t) ∧ (∀ r, lpP t τ op A f p xs = .ok r → p ≤ r.1 ∧ r.1 ≤ t ∧ r.2.length + p ≤ xs.length + r.1) := by
  intro f
  induction f with
  | zero => intro p xs hp; exact ⟨fun e h => (by cases h), fun r h => (by cases h; exact ⟨Nat.le_refl _, hp, Nat.le_refl _⟩)⟩
  | succ f ih =>
    intro p xs hp
    have h1 := skp_le (τ := τ) hp
    have h2 := skp_ge (t := t) (τ := τ) (p := p)
    rw [lpP]
    by_cases q : op (nsg t τ p) = 0
    · rw [if_pos q]
      exact ⟨fun e h => (by cases h), fun r h => by cases h; exact ⟨h2, h1, by show xs.length + p ≤ xs.length + skp t τ p; omega⟩⟩
    · rw [if_neg q]
      have h3 : skp t τ p < t := nsg_p rfl (fun w => q (by rw [w]; exact hm))
      obtain ⟨a1, a2⟩ := hA (skp t τ p + 1) h3
      refine ⟨fun e h => ?_, fun r h => ?_⟩
      · rcases pgo_err h with h | ⟨q1, h, g⟩
        · exact a1 e h
        · exact (ih q1.1 _ (a2 q1 h).2.1).1 e g
      · obtain ⟨q1, h, g⟩ := pgo_ok h
        obtain ⟨b1, b2, b3⟩ := a2 q1 h
        obtain ⟨c1, c2, c3⟩ := (ih q1.1 _ b2).2 r g
        rw [List.length_append, List.length_append, List.length_singleton] at c3
        exact ⟨by omega, c2, by omega⟩
theorem pOk_gn {t : Nat} {τ : Nat → Int32} {op : Int32 → Int32} {F A : Nat → PR} (hm : op (-1) = 0) (hF : pOk t F) (hA : pOk t A) : pOk t (gnQ t τ op F A) := by
  intro p hp
  obtain ⟨a1, a2⟩ := hF p hp
  unfold gnQ
  refine ⟨fun e h => ?_, fun r h => ?_⟩
  · rcases pgo_err h with h | ⟨q1, h, g⟩
    · exact a1 e h
    · exact (pOk_lp hm hA _ q1.1 _ (a2 q1 h).2.1).1 e g
  · obtain ⟨q1, h, g⟩ := pgo_ok h
    obtain ⟨b1, b2, b3⟩ := a2 q1 h
    obtain ⟨c1, c2, c3⟩ := (pOk_lp hm hA _ q1.1 _ b2).2 r g
    exact ⟨by omega, c2, by omega⟩
theorem pOk_lvl {t : Nat} {τ : Nat → Int32} : ∀ k s, lvl t τ k = some s → pOk t s := by
  intro k
  induction k with
  | zero => intro s h; cases h
  | succ k ih =>
    intro s h
    rw [lvl] at h
    cases h
    have ha := pOk_at (τ := τ) ih
    have ht := pOk_gn (τ := τ) (op := opT) (by decide) ha ha
    exact pOk_gn (by decide) ht ht
theorem pOk_atW {t : Nat} {τ : Nat → Int32} {w : Nat} : pOk t (atW t τ w) := pOk_at (pOk_lvl (6 - w))
theorem pOk_tmW {t : Nat} {τ : Nat → Int32} {w : Nat} : pOk t (tmW t τ w) := pOk_gn (by decide) pOk_atW pOk_atW
theorem pOk_smW {t : Nat} {τ : Nat → Int32} {w : Nat} : pOk t (smW t τ w) := pOk_gn (by decide) pOk_tmW pOk_tmW
theorem pOk_cmW {t : Nat} {τ : Nat → Int32} {w : Nat} : pOk t (cmW t τ w) := by
  intro p hp
  have h1 := skp_le (τ := τ) hp
  have h2 := skp_ge (t := t) (τ := τ) (p := p)
  unfold cmW
  by_cases q : cmO (nsg t τ p) = 0
  · rw [if_pos q]; exact ⟨fun e h => by cases h; exact h1, fun r h => by cases h⟩
  · rw [if_neg q]
    have h3 : skp t τ p < t := nsg_p rfl (fun w => q (by rw [w]; decide))
    obtain ⟨a1, a2⟩ := pOk_smW (w := w) (skp t τ p + 1) h3
    refine ⟨fun e h => ?_, fun r h => ?_⟩
    · rcases pgo_err h with h | ⟨q1, h, g⟩
      · exact a1 e h
      · cases g
    · obtain ⟨q1, h, g⟩ := pgo_ok h
      obtain ⟨b1, b2, b3⟩ := a2 q1 h
      cases g
      exact ⟨by show p < q1.1; omega, b2, by show (q1.2 ++ [_]).length + p ≤ q1.1; rw [List.length_append, List.length_singleton]; omega⟩
theorem pOk_un {t : Nat} {τ : Nat → Int32} {w : Nat} {U : Option ((Nat → PR) × (Nat → PR))} (hU : ∀ u, U = some u → pOk t u.1 ∧ pOk t u.2) : pOk t (unP t τ w U) := by
  intro p hp
  have h1 := skp_le (τ := τ) hp
  have h2 := skp_ge (t := t) (τ := τ) (p := p)
  unfold unP
  by_cases q : nsg t τ p = 33
  · rw [if_pos q]
    have h3 := nsg_p q (by decide)
    cases U with
    | none => exact ⟨fun e h => by cases h; exact h1, fun r h => by cases h⟩
    | some u =>
      obtain ⟨a1, a2⟩ := (hU u rfl).1 (skp t τ p + 1) h3
      refine ⟨fun e h => ?_, fun r h => ?_⟩
      · rcases pgo_err h with h | ⟨q1, h, g⟩
        · exact a1 e h
        · cases g
      · obtain ⟨q1, h, g⟩ := pgo_ok h
        obtain ⟨b1, b2, b3⟩ := a2 q1 h
        cases g
        exact ⟨by show p < q1.1; omega, b2, by show (q1.2 ++ [_]).length + p ≤ q1.1; rw [List.length_append, List.length_singleton]; omega⟩
  · rw [if_neg q]
    by_cases q : nsg t τ p = 40
    · rw [if_pos q]
      have h3 := nsg_p q (by decide)
      cases U with
      | none => exact ⟨fun e h => by cases h; exact h1, fun r h => by cases h⟩
      | some u =>
        obtain ⟨a1, a2⟩ := (hU u rfl).2 (skp t τ p + 1) h3
        refine ⟨fun e h => ?_, fun r h => ?_⟩
        · rcases pgo_err h with h | ⟨r, h, g⟩
          · exact a1 e h
          · obtain ⟨b1, b2, b3⟩ := a2 r h
            split at g
            · cases g
            · cases g; exact skp_le b2
        · obtain ⟨q1, h, g⟩ := pgo_ok h
          obtain ⟨b1, b2, b3⟩ := a2 q1 h
          split at g
          · rename_i z
            cases g
            have h4 := nsg_p z (by decide)
            have h5 := skp_ge (t := t) (τ := τ) (p := q1.1)
            exact ⟨by show p < skp t τ q1.1 + 1; omega, by show skp t τ q1.1 + 1 ≤ t; omega, by show q1.2.length + p ≤ skp t τ q1.1 + 1; omega⟩
          · cases g
    · rw [if_neg q]
      obtain ⟨a1, a2⟩ := pOk_smW (w := w) (skp t τ p) h1
      refine ⟨fun e h => ?_, fun r h => ?_⟩
      · rcases pgo_err h with h | ⟨q1, h, g⟩
        · exact a1 e h
        · obtain ⟨b1, b2, b3⟩ := a2 q1 h
          rcases pgo_err g with h | ⟨q2, h, g⟩
          · exact (pOk_cmW q1.1 b2).1 e h
          · cases g
      · obtain ⟨q1, h, g⟩ := pgo_ok h
        obtain ⟨b1, b2, b3⟩ := a2 q1 h
        obtain ⟨q2, h, g⟩ := pgo_ok g
        obtain ⟨c1, c2, c3⟩ := (pOk_cmW q1.1 b2).2 q2 h
        cases g
        exact ⟨by show p < q2.1; omega, c2, by show (q1.2 ++ q2.2).length + p ≤ q2.1; rw [List.length_append]; omega⟩
theorem pOk_lvU {t : Nat} {τ : Nat → Int32} : ∀ k u, lvU t τ k = some u → pOk t u.1 ∧ pOk t u.2 := by
  intro k
  induction k with
  | zero => intro u h; cases h
  | succ k ih =>
    intro u h
    rw [lvU] at h
    cases h
    have ha := pOk_un (τ := τ) (w := 6 - k) ih
    have ht := pOk_gn (τ := τ) (op := opA) (by decide) ha ha
    exact ⟨ha, pOk_gn (by decide) ht ht⟩
theorem pOk_unW {t : Nat} {τ : Nat → Int32} {w : Nat} : pOk t (unW t τ w) := pOk_un (pOk_lvU (6 - w))
theorem pOk_trW {t : Nat} {τ : Nat → Int32} {w : Nat} : pOk t (trW t τ w) := pOk_gn (by decide) pOk_unW pOk_unW
theorem pOk_cdW {t : Nat} {τ : Nat → Int32} {w : Nat} : pOk t (cdW t τ w) := pOk_gn (by decide) pOk_trW pOk_trW
theorem pOk_unX {t : Nat} {τ : Nat → Int32} {w : Nat} {b : Int32} : pOk t (unX t τ w b) := by
  unfold unX
  split
  · exact pOk_unW
  · exact pOk_cmW
theorem pOk_trX {t : Nat} {τ : Nat → Int32} {w : Nat} {b : Int32} : pOk t (trX t τ w b) := pOk_gn (by decide) pOk_unX pOk_unW
theorem pOk_cdX {t : Nat} {τ : Nat → Int32} {w : Nat} {b : Int32} : pOk t (cdX t τ w b) := pOk_gn (by decide) pOk_trX pOk_trW
theorem cmW_skp {t : Nat} {τ : Nat → Int32} {w p : Nat} : cmW t τ w (skp t τ p) = cmW t τ w p := by unfold cmW; rw [nsg_skp, skp_skp]
/-! answers of a reader -/
def okB {α : Type} (r : Except Nat α) : Int32 := match r with
  | .error _ => 0
  | .ok _ => 1
theorem okB_e0 {α : Type} {r : Except Nat α} (h : okB r = 0) : ∃ e, r = .error e := by
  cases r with
  | error e => exact ⟨e, rfl⟩
  | ok y => exact absurd h (by show ¬ (1 : Int32) = 0; decide)
theorem okB_n0 {α : Type} {r : Except Nat α} (h : ¬ okB r = 0) : ∃ y, r = .ok y := by
  cases r with
  | error e => exact absurd rfl h
  | ok y => exact ⟨y, rfl⟩
theorem okB_gd {α : Type} {r : Except Nat α} {K : Prop} (h : K) : mj_gd (decide (okB r = 0) || decide (okB r = 1)) K := gd_pos (by cases r <;> rfl) h
/-- steps written by the class from n on -/
def Cd (I : Nat → Nat → Int32) (n : Nat) (xs : List Int32) (B : Nat → Int32) : Prop := I 24 2 = nI (n + xs.length) ∧ (∀ j, j < xs.length → I 25 (n + j) = xs.getD j 0) ∧ ∀ j, j < n → I 25 j = B j
def cFr (c k : Nat) : Prop := (c = 1 ∧ k = 2) ∨ (c = 24 ∧ k = 2) ∨ c = 25
theorem Cd_0 {I : Nat → Nat → Int32} {n : Nat} (h : I 24 2 = nI n) : Cd I n [] (I 25) := ⟨h, fun j hj => absurd hj (Nat.not_lt_zero j), fun _ _ => rfl⟩
theorem Cd_mk {I I1 : Nat → Nat → Int32} {n : Nat} {xs : List Int32} {B : Nat → Int32} (h : Cd I n xs B) (e : fr rFr I I1) : Cd I1 n xs B := ⟨by rw [e 24 2 (by unfold rFr; omega)]; exact h.1, fun j hj => by rw [e 25 _ (by unfold rFr; omega)]; exact h.2.1 j hj, fun j hj => by rw [e 25 _ (by unfold rFr; omega)]; exact h.2.2 j hj⟩
theorem gd_l {xs ys : List Int32} {j : Nat} (h : j < xs.length) : (xs ++ ys).getD j 0 = xs.getD j 0 := by
  rw [List.getD_eq_getElem?_getD, List.getD_eq_getElem?_getD, List.getElem?_append_left h]
theorem gd_r {xs ys : List Int32} {j : Nat} (h : xs.length ≤ j) : (xs ++ ys).getD j 0 = ys.getD (j - xs.length) 0 := by
  rw [List.getD_eq_getElem?_getD, List.getD_eq_getElem?_getD, List.getElem?_append_right h]
theorem Cd_app {I I1 : Nat → Nat → Int32} {n : Nat} {xs ys : List Int32} {B : Nat → Int32} (h : Cd I n xs B) (h2 : Cd I1 (n + xs.length) ys (I 25)) : Cd I1 n (xs ++ ys) B := by
  refine ⟨by rw [List.length_append, ← Nat.add_assoc]; exact h2.1, fun j hj => ?_, fun j hj => ?_⟩
  · by_cases q : j < xs.length
    · rw [gd_l q, h2.2.2 _ (by omega)]; exact h.2.1 j q
    · rw [List.length_append] at hj
      rw [gd_r (by omega), ← h2.2.1 _ (by omega)]
      congr 1
      omega
  · rw [h2.2.2 j (by omega)]; exact h.2.2 j hj
theorem Cd_up {I : Nat → Nat → Int32} {n m : Nat} {xs : List Int32} {B : Nat → Int32} {x y : Int32} (h : Cd I n xs B) (hm : m = n + xs.length) (hy : y = nI (m + 1)) : Cd (mj_ui (mj_ui I 25 m x) 24 2 y) n (xs ++ [x]) B := by
  subst hm
  refine ⟨by rw [ui_s, hy, List.length_append, List.length_singleton, Nat.add_assoc], fun j hj => ?_, fun j hj => ?_⟩
  · rw [ui_c (by decide)]
    by_cases q : j < xs.length
    · rw [gd_l q, ui_k (by omega)]; exact h.2.1 j q
    · rw [List.length_append, List.length_singleton] at hj
      have e : j = xs.length := by omega
      subst e
      rw [gd_r (Nat.le_refl _), Nat.sub_self, ui_s]; rfl
  · rw [ui_c (by decide), ui_k (by omega)]; exact h.2.2 j hj
/-- what a reader of the class leaves -/
def wrC (r : PR) (n : Nat) (I I1 : Nat → Nat → Int32) : Prop := fr cFr I I1 ∧ (∀ e, r = .error e → I1 1 2 = nI e) ∧ (∀ q, r = .ok q → I1 1 2 = nI q.1 ∧ Cd I1 n q.2 (I 25))
/-- what a reader of the class may take for granted -/
def prC (I : Nat → Nat → Int32) (t : Nat) (τ : Nat → Int32) (p n : Nat) : Prop := TC I t τ ∧ I 1 2 = nI p ∧ p ≤ t ∧ I 24 2 = nI n ∧ n ≤ p
theorem rc_fr {I I1 : Nat → Nat → Int32} (h : fr rFr I I1) : fr cFr I I1 := fr_mo h (fun c k q => Or.inl q)
theorem TC_c {I I1 : Nat → Nat → Int32} {t : Nat} {τ : Nat → Int32} (h : TC I t τ) (e : fr cFr I I1) : TC I1 t τ := TC_fr h (e 1 1 (by unfold cFr; omega)) (fun k => e 2 k (by unfold cFr; omega))
