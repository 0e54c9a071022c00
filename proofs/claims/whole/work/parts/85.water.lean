/-! ===== a water told as a text: a pure reader ===== -/
abbrev hasB (g k : Int32) : Prop := ((g >>> (k &&& 31)) &&& 1) = 1
def loL (k : Int32) : Int32 := if k = 0 then 2 else if k = 5 then 1 else 0
def hiL (k : Int32) : Int32 := if k = 0 then 20 else if k = 5 then 60 else if k = 2 then 1 else if k = 6 then 1 else 9
def usL (k : Int32) : Int32 := if k = 0 then 10 else if k = 5 then 20 else 0
def loB (k : Int32) : Int32 := if k = 3 then 1 else 0
def hiB (k : Int32) : Int32 := if k = 0 then 19 else if k = 1 then 19 else if k = 4 then 9 else if k = 5 then 4 else 3
def usB (k : Int32) : Int32 := if k = 1 then 5 else if k = 4 then 5 else if k = 3 then 2 else if k = 5 then 4 else 0
def vupd (V : Nat → Int32) (k : Nat) (x : Int32) : Nat → Int32 := fun j => if j = k then x else V j
abbrev IR : Type := Except Nat (Nat × (Nat → Int32))
noncomputable def itP (t : Nat) (τ : Nat → Int32) (it lo hi : Int32 → Int32) : Nat → Nat → Int32 → (Nat → Int32) → IR
  | 0, p, _, V => .ok (skp t τ p, V)
  | f + 1, p, g, V => if it (nsg t τ p) = -1 ∨ hasB g (it (nsg t τ p)) then .ok (skp t τ p, V) else match numR t τ 2 (skp t τ p + 1) with
    | .error e => .error e
    | .ok r => if nI r.2 < lo (it (nsg t τ p)) ∨ hi (it (nsg t τ p)) < nI r.2 then .error (r.1 - 1) else itP t τ it lo hi f r.1 (g ||| (1 <<< (it (nsg t τ p) &&& 31))) (vupd V (it (nsg t τ p)).toNatClampNeg (nI r.2))
def usLV : Nat → Int32 := fun j => usL (nI j)
def usBV : Nat → Int32 := fun j => usB (nI j)
noncomputable def itLP (t : Nat) (τ : Nat → Int32) (p : Nat) : IR := itP t τ itL loL hiL 7 p 0 usLV
noncomputable def itBP (t : Nat) (τ : Nat → Int32) (p : Nat) : IR := itP t τ itB loB hiB 6 p 0 usBV
/-- which clause, and what it says -/
noncomputable def wcP (t : Nat) (τ : Nat → Int32) (p : Nat) (b : Bool) (n : Nat) : Except Nat (Nat × Bool × (Nat → Int32)) :=
  if nsg t τ p = 108 ∧ b = false then (match itLP t τ (skp t τ p + 1) with
    | .error e => .error e
    | .ok r => .ok (r.1, true, r.2))
  else if nsg t τ p = 98 ∧ n < 8 then (match itBP t τ (skp t τ p + 1) with
    | .error e => .error e
    | .ok r => .ok (r.1, false, r.2))
  else .error (skp t τ p)
abbrev WS : Type := Bool × (Nat → Int32) × Nat × (Nat → Nat → Int32)
def wst (s : WS) (l : Bool) (V : Nat → Int32) : WS := match l with
  | true => (true, V, s.2.2.1, s.2.2.2)
  | false => (s.1, s.2.1, s.2.2.1 + 1, fun i => if i = s.2.2.1 then V else s.2.2.2 i)
def whole (s : WS) : Prop := s.1 = true ∧ 0 < s.2.2.1 ∧ ∀ i, i < s.2.2.1 → ¬ s.2.2.2 i 3 < s.2.2.2 i 2 ∧ s.2.2.2 i 0 < s.2.1 0 ∧ ∀ o, o < i → ¬ (s.2.2.2 o 0 = s.2.2.2 i 0 ∧ s.2.2.2 o 1 = s.2.2.2 i 1)
noncomputable def waP (t : Nat) (τ : Nat → Int32) : Nat → Nat → WS → Except Nat WS
  | 0, _, _ => .error 0
  | f + 1, p, s => match wcP t τ p s.1 s.2.2.1 with
    | .error e => .error e
    | .ok r => if nsg t τ r.1 = 59 then waP t τ f (skp t τ r.1 + 1) (wst s r.2.1 r.2.2) else if nsg t τ r.1 = -1 then cif (whole (wst s r.2.1 r.2.2)) (.ok (wst s r.2.1 r.2.2)) (.error t) else .error (skp t τ r.1)
def ws0 : WS := (false, fun _ => 0, 0, fun _ _ => 0)
noncomputable def wtP (t : Nat) (τ : Nat → Int32) : Except Nat WS := waP t τ (t + 1) 0 ws0
/-! facts -/
def pc7 (m : Nat) : Nat := m % 2 + m / 2 % 2 + m / 4 % 2 + m / 8 % 2 + m / 16 % 2 + m / 32 % 2 + m / 64 % 2
set_option maxRecDepth 100000 in
theorem full7 : ∀ m, m < 128 → pc7 m = 7 → ∀ j, j < 7 → hasB (nI m) (nI j) := by decide +kernel
set_option maxRecDepth 100000 in
theorem full6 : ∀ m, m < 64 → pc7 m = 6 → ∀ j, j < 6 → hasB (nI m) (nI j) := by decide +kernel
set_option maxRecDepth 100000 in
theorem step7 : ∀ m, m < 128 → ∀ j, j < 7 → ¬ hasB (nI m) (nI j) → nI m ||| (1 <<< (nI j &&& 31)) = nI (m + 2 ^ j) ∧ pc7 (m + 2 ^ j) = pc7 m + 1 ∧ m + 2 ^ j < 128 := by decide +kernel
set_option maxRecDepth 100000 in
theorem step6 : ∀ m, m < 64 → ∀ j, j < 6 → ¬ hasB (nI m) (nI j) → nI m ||| (1 <<< (nI j &&& 31)) = nI (m + 2 ^ j) ∧ pc7 (m + 2 ^ j) = pc7 m + 1 ∧ m + 2 ^ j < 64 := by decide +kernel
theorem itL_b {s : Int32} (h : ¬ itL s = -1) : ∃ j, j < 7 ∧ itL s = nI j := by
  revert h
  unfold itL
  by_cases q0 : s = 119
  · rw [if_pos q0]; intro _; exact ⟨0, by decide, rfl⟩
  rw [if_neg q0]
  by_cases q1 : s = 97
  · rw [if_pos q1]; intro _; exact ⟨1, by decide, rfl⟩
  rw [if_neg q1]
  by_cases q2 : s = 101
  · rw [if_pos q2]; intro _; exact ⟨2, by decide, rfl⟩
  rw [if_neg q2]
  by_cases q3 : s = 117
  · rw [if_pos q3]; intro _; exact ⟨3, by decide, rfl⟩
  rw [if_neg q3]
  by_cases q4 : s = 100
  · rw [if_pos q4]; intro _; exact ⟨4, by decide, rfl⟩
  rw [if_neg q4]
  by_cases q5 : s = 115
  · rw [if_pos q5]; intro _; exact ⟨5, by decide, rfl⟩
  rw [if_neg q5]
  by_cases q6 : s = 102
  · rw [if_pos q6]; intro _; exact ⟨6, by decide, rfl⟩
  rw [if_neg q6]
  intro h; exact absurd rfl h
theorem itB_b {s : Int32} (h : ¬ itB s = -1) : ∃ j, j < 6 ∧ itB s = nI j := by
  revert h
  unfold itB
  by_cases q0 : s = 120
  · rw [if_pos q0]; intro _; exact ⟨0, by decide, rfl⟩
  rw [if_neg q0]
  by_cases q1 : s = 121
  · rw [if_pos q1]; intro _; exact ⟨1, by decide, rfl⟩
  rw [if_neg q1]
  by_cases q2 : s = 118
  · rw [if_pos q2]; intro _; exact ⟨2, by decide, rfl⟩
  rw [if_neg q2]
  by_cases q3 : s = 109
  · rw [if_pos q3]; intro _; exact ⟨3, by decide, rfl⟩
  rw [if_neg q3]
  by_cases q4 : s = 122
  · rw [if_pos q4]; intro _; exact ⟨4, by decide, rfl⟩
  rw [if_neg q4]
  by_cases q5 : s = 114
  · rw [if_pos q5]; intro _; exact ⟨5, by decide, rfl⟩
  rw [if_neg q5]
  intro h; exact absurd rfl h
theorem num2_ok {t : Nat} {τ : Nat → Int32} {p : Nat} (hp : p ≤ t) : (∀ e, numR t τ 2 p = .error e → e ≤ t) ∧ (∀ r, numR t τ 2 p = .ok r → p < r.1 ∧ r.1 ≤ t ∧ r.2 < 100) := by
  have h1 := skp_le (τ := τ) hp
  have h2 := skp_ge (t := t) (τ := τ) (p := p)
  obtain ⟨b1, b2, b3, b4⟩ := nmV_b (t := t) (τ := τ) 2 (skp t τ p) 0
  unfold numR
  by_cases q : isD (nsg t τ p)
  · rw [cif_t q]
    have hlt : skp t τ p < (nmV t τ 2 (skp t τ p) 0).1 := by
      rw [nmV_s (f := 1) q]
      have := (nmV_b (t := t) (τ := τ) 1 (skp t τ p + 1) (10 * 0 + ((sg t τ (skp t τ p)).toInt - 48).toNat)).1
      omega
    by_cases q2 : isD (sg t τ (nmV t τ 2 (skp t τ p) 0).1)
    · rw [cif_t q2]
      exact ⟨fun e h => by cases h; exact b3 h1, fun r h => by cases h⟩
    · rw [cif_f q2]
      exact ⟨fun e h => (by cases h), fun r h => by cases h; exact ⟨by omega, b3 h1, by omega⟩⟩
  · rw [cif_f q]
    exact ⟨fun e h => by cases h; exact h1, fun r h => by cases h⟩
def rgV (N : Nat) (lo hi : Int32 → Int32) (V : Nat → Int32) : Prop := ∀ j, j < N → ¬ V j < lo (nI j) ∧ ¬ hi (nI j) < V j
theorem itP_ok {t N : Nat} {τ : Nat → Int32} {it lo hi : Int32 → Int32} (hN : N ≤ 7) (hm : it (-1) = -1) (hit : ∀ s, ¬ it s = -1 → ∃ j, j < N ∧ it s = nI j) : ∀ (f p : Nat) (g : Int32) (V : Nat → Int32), p ≤ t → (∀ e, itP t τ it lo hi f p g V = .error e → e ≤ t) ∧ ∀ r, itP t τ it lo hi f p g V = .ok r → p ≤ r.1 ∧ r.1 ≤ t ∧ skp t τ r.1 = r.1 ∧ (rgV N lo hi V → rgV N lo hi r.2) := by
  intro f
  induction f with
  | zero =>
    intro p g V hp
    exact ⟨fun e h => (by cases h), fun r h => by cases h; exact ⟨skp_ge, skp_le hp, skp_skp, fun q => q⟩⟩
  | succ f ih =>
    intro p g V hp
    have h1 := skp_le (τ := τ) hp
    have h2 := skp_ge (t := t) (τ := τ) (p := p)
    rw [itP]
    by_cases q : it (nsg t τ p) = -1 ∨ hasB g (it (nsg t τ p))
    · rw [if_pos q]
      exact ⟨fun e h => (by cases h), fun r h => by cases h; exact ⟨h2, h1, skp_skp, fun q => q⟩⟩
    · rw [if_neg q]
      have h3 : skp t τ p + 1 ≤ t := nsg_p rfl (fun w => q (Or.inl (by rw [w]; exact hm)))
      obtain ⟨a1, a2⟩ := num2_ok (τ := τ) h3
      obtain ⟨j, hj, ej⟩ := hit _ (fun w => q (Or.inl w))
      cases hn : numR t τ 2 (skp t τ p + 1) with
      | error e => exact ⟨fun e' h => by cases h; exact a1 _ hn, fun r h => by cases h⟩
      | ok y =>
        obtain ⟨b1, b2, b3⟩ := a2 y hn
        dsimp only
        by_cases w : nI y.2 < lo (it (nsg t τ p)) ∨ hi (it (nsg t τ p)) < nI y.2
        · rw [if_pos w]; exact ⟨fun e h => by cases h; omega, fun r h => by cases h⟩
        · rw [if_neg w]
          obtain ⟨c1, c2⟩ := ih y.1 (g ||| (1 <<< (it (nsg t τ p) &&& 31))) (vupd V (it (nsg t τ p)).toNatClampNeg (nI y.2)) b2
          refine ⟨c1, fun r h => ?_⟩
          obtain ⟨d1, d2, d3, d4⟩ := c2 r h
          refine ⟨by omega, d2, d3, fun hV => d4 (fun i hi' => ?_)⟩
          unfold vupd
          rw [ej, jn_cl (by omega)]
          by_cases z : i = j
          · rw [if_pos z, z]; rw [ej] at w; exact ⟨fun u => w (Or.inl u), fun u => w (Or.inr u)⟩
          · rw [if_neg z]; exact hV i hi'
theorem us_L : rgV 7 loL hiL usLV := by unfold rgV usLV; decide
theorem us_B : rgV 6 loB hiB usBV := by unfold rgV usBV; decide
theorem itLP_ok {t : Nat} {τ : Nat → Int32} {p : Nat} (hp : p ≤ t) : (∀ e, itLP t τ p = .error e → e ≤ t) ∧ ∀ r, itLP t τ p = .ok r → p ≤ r.1 ∧ r.1 ≤ t ∧ skp t τ r.1 = r.1 ∧ rgV 7 loL hiL r.2 := by
  obtain ⟨a, b⟩ := itP_ok (N := 7) (it := itL) (lo := loL) (hi := hiL) (τ := τ) (by decide) (by decide) (fun s => itL_b) 7 p 0 usLV hp
  exact ⟨a, fun r h => by obtain ⟨c1, c2, c3, c4⟩ := b r h; exact ⟨c1, c2, c3, c4 us_L⟩⟩
theorem itBP_ok {t : Nat} {τ : Nat → Int32} {p : Nat} (hp : p ≤ t) : (∀ e, itBP t τ p = .error e → e ≤ t) ∧ ∀ r, itBP t τ p = .ok r → p ≤ r.1 ∧ r.1 ≤ t ∧ skp t τ r.1 = r.1 ∧ rgV 6 loB hiB r.2 := by
  obtain ⟨a, b⟩ := itP_ok (N := 6) (it := itB) (lo := loB) (hi := hiB) (τ := τ) (by decide) (by decide) (fun s => itB_b) 6 p 0 usBV hp
  exact ⟨a, fun r h => by obtain ⟨c1, c2, c3, c4⟩ := b r h; exact ⟨c1, c2, c3, c4 us_B⟩⟩
def wRg (s : WS) : Prop := (s.1 = true → rgV 7 loL hiL s.2.1) ∧ s.2.2.1 ≤ 8 ∧ ∀ i, i < s.2.2.1 → rgV 6 loB hiB (s.2.2.2 i)
theorem wcP_ok {t : Nat} {τ : Nat → Int32} {p n : Nat} {b : Bool} (hp : p ≤ t) : (∀ e, wcP t τ p b n = .error e → e ≤ t) ∧ ∀ r, wcP t τ p b n = .ok r → p < r.1 ∧ r.1 ≤ t ∧ skp t τ r.1 = r.1 ∧ (r.2.1 = true → b = false ∧ rgV 7 loL hiL r.2.2) ∧ (r.2.1 = false → n < 8 ∧ rgV 6 loB hiB r.2.2) := by
  have h1 := skp_le (τ := τ) hp
  have h2 := skp_ge (t := t) (τ := τ) (p := p)
  unfold wcP
  by_cases q : nsg t τ p = 108 ∧ b = false
  · rw [if_pos q]
    have h3 : skp t τ p + 1 ≤ t := nsg_p q.1 (by decide)
    obtain ⟨a1, a2⟩ := itLP_ok (τ := τ) h3
    cases hi : itLP t τ (skp t τ p + 1) with
    | error e => exact ⟨fun e' h => by cases h; exact a1 _ hi, fun r h => by cases h⟩
    | ok y =>
      obtain ⟨b1, b2, b3, b4⟩ := a2 y hi
      exact ⟨fun e' h => (by cases h), fun r h => by cases h; exact ⟨by show p < y.1; omega, b2, b3, fun _ => ⟨q.2, b4⟩, fun w => by cases w⟩⟩
  · rw [if_neg q]
    by_cases q2 : nsg t τ p = 98 ∧ n < 8
    · rw [if_pos q2]
      have h3 : skp t τ p + 1 ≤ t := nsg_p q2.1 (by decide)
      obtain ⟨a1, a2⟩ := itBP_ok (τ := τ) h3
      cases hi : itBP t τ (skp t τ p + 1) with
      | error e => exact ⟨fun e' h => by cases h; exact a1 _ hi, fun r h => by cases h⟩
      | ok y =>
        obtain ⟨b1, b2, b3, b4⟩ := a2 y hi
        exact ⟨fun e' h => (by cases h), fun r h => by cases h; exact ⟨by show p < y.1; omega, b2, b3, fun w => (by cases w), fun _ => ⟨q2.2, b4⟩⟩⟩
    · rw [if_neg q2]; exact ⟨fun e h => by cases h; exact h1, fun r h => by cases h⟩
theorem wst_rg {s : WS} {l : Bool} {V : Nat → Int32} (h : wRg s) (hl : l = true → rgV 7 loL hiL V) (hb : l = false → s.2.2.1 < 8 ∧ rgV 6 loB hiB V) : wRg (wst s l V) := by
  obtain ⟨h1, h2, h3⟩ := h
  cases l with
  | true => exact ⟨fun _ => hl rfl, h2, h3⟩
  | false =>
    obtain ⟨g1, g2⟩ := hb rfl
    refine ⟨h1, by show s.2.2.1 + 1 ≤ 8; omega, fun i hi => ?_⟩
    show rgV 6 loB hiB (if i = s.2.2.1 then V else s.2.2.2 i)
    by_cases z : i = s.2.2.1
    · rw [if_pos z]; exact g2
    · rw [if_neg z]
      have : i < s.2.2.1 + 1 := hi
      exact h3 i (by omega)
theorem wa_ok {t : Nat} {τ : Nat → Int32} : ∀ (f p : Nat) (s : WS), t + 1 ≤ p + f → p ≤ t → wRg s → (∀ e, waP t τ f p s = .error e → e ≤ t) ∧ ∀ s', waP t τ f p s = .ok s' → whole s' ∧ wRg s' := by
  intro f
  induction f with
  | zero => intro p s hf hp; omega
  | succ f ih =>
    intro p s hf hp hs
    obtain ⟨a1, a2⟩ := wcP_ok (τ := τ) (b := s.1) (n := s.2.2.1) hp
    rw [waP]
    cases hc : wcP t τ p s.1 s.2.2.1 with
    | error e => exact ⟨fun e' h => by cases h; exact a1 _ hc, fun r h => by cases h⟩
    | ok r =>
      obtain ⟨b1, b2, b3, b4, b5⟩ := a2 r hc
      have hs' := wst_rg hs (fun w => (b4 w).2) b5
      dsimp only
      by_cases s1 : nsg t τ r.1 = 59
      · rw [if_pos s1]
        exact ih _ _ (by rw [b3]; omega) (nsg_p s1 (by decide)) hs'
      · rw [if_neg s1]
        by_cases s2 : nsg t τ r.1 = -1
        · rw [if_pos s2]
          by_cases w : whole (wst s r.2.1 r.2.2)
          · rw [cif_t w]; exact ⟨fun e' h => (by cases h), fun s' h => by cases h; exact ⟨w, hs'⟩⟩
          · rw [cif_f w]; exact ⟨fun e' h => by cases h; exact Nat.le_refl _, fun s' h => by cases h⟩
        · rw [if_neg s2]; exact ⟨fun e' h => by cases h; exact skp_le b2, fun s' h => by cases h⟩
theorem wRg0 : wRg ws0 := ⟨fun w => (by cases w), by show 0 ≤ 8; omega, fun i hi => absurd hi (Nat.not_lt_zero i)⟩
theorem wt_ok {t : Nat} {τ : Nat → Int32} : (∀ e, wtP t τ = .error e → e ≤ t) ∧ ∀ s', wtP t τ = .ok s' → whole s' ∧ wRg s' := wa_ok (t + 1) 0 ws0 (by omega) (by omega) wRg0
theorem skp_t {t : Nat} {τ : Nat → Int32} {p : Nat} (hX : TX t τ) (hp : p ≤ t) (h : nsg t τ p = -1) : skp t τ p = t := by
  have h1 := skp_le (τ := τ) hp
  rcases Nat.lt_or_ge (skp t τ p) t with q | q
  · have := hX.2 _ q
    unfold nsg at h
    rw [sg_lt q] at h
    rw [h] at this
    exact absurd this.1 (by decide)
  · omega
