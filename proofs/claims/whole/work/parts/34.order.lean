/-! ===== the order in which boats go ===== -/
def lx (B : Nat → Int32) (j b : Nat) : Prop := B j < B b ∨ (B j = B b ∧ j < b)
theorem lx_iff {B : Nat → Int32} {j b : Nat} : lx B j b ↔ ((B j).toInt < (B b).toInt ∨ ((B j).toInt = (B b).toInt ∧ j < b)) := by
  unfold lx
  rw [Int32.lt_iff_toInt_lt, ← Int32.toInt_inj]
theorem lx_tr {B : Nat → Int32} {i j b : Nat} (h : lx B i j) (h2 : lx B j b) : lx B i b := by
  rw [lx_iff] at *
  omega
theorem lx_ir {B : Nat → Int32} {b : Nat} : ¬ lx B b b := by rw [lx_iff]; omega
theorem lx_tot {B : Nat → Int32} {j b : Nat} (h : ¬ j = b) : lx B j b ∨ lx B b j := by
  rw [lx_iff, lx_iff]
  omega
theorem cnt_mo {p q : Nat → Prop} {n : Nat} (h : ∀ i, i < n → p i → q i) : cnt p n ≤ cnt q n := by
  induction n with
  | zero => exact Nat.le_refl _
  | succ n ih =>
    have := ih (fun i hi => h i (by omega))
    rcases Classical.em (p n) with k | k
    · rw [cnt_y k, cnt_y (h n (by omega) k)]; omega
    · rw [cnt_n k]
      rcases Classical.em (q n) with k2 | k2
      · rw [cnt_y k2]; omega
      · rw [cnt_n k2]; omega
theorem cnt_st {p q : Nat → Prop} {n j : Nat} (h : ∀ i, i < n → p i → q i) (hj : j < n) (h1 : q j) (h0 : ¬ p j) : cnt p n < cnt q n := by
  induction n with
  | zero => omega
  | succ n ih =>
    rcases Nat.lt_or_ge j n with g | g
    · have := ih (fun i hi => h i (by omega)) g
      rcases Classical.em (p n) with k | k
      · rw [cnt_y k, cnt_y (h n (by omega) k)]; omega
      · rw [cnt_n k]
        rcases Classical.em (q n) with k2 | k2
        · rw [cnt_y k2]; omega
        · rw [cnt_n k2]; omega
    · obtain rfl : j = n := by omega
      rw [cnt_n h0, cnt_y h1]
      have := cnt_mo (p := p) (q := q) (n := j) (fun i hi => h i (by omega))
      omega
noncomputable def rk (n : Nat) (B : Nat → Int32) (b : Nat) : Nat := cnt (fun j => lx B j b) n
theorem rk_lt {n j b : Nat} {B : Nat → Int32} (hj : j < n) (h : lx B j b) : rk n B j < rk n B b :=
  cnt_st (fun _ _ q => lx_tr q h) hj h lx_ir
theorem rk_inj {n j b : Nat} {B : Nat → Int32} (hj : j < n) (hb : b < n) (h : rk n B j = rk n B b) : j = b := by
  rcases Classical.em (j = b) with q | q
  · exact q
  · rcases lx_tot (B := B) q with g | g
    · have := rk_lt hj g; omega
    · have := rk_lt hb g; omega
theorem rk_lx {n j b : Nat} {B : Nat → Int32} (hb : b < n) (h : rk n B j < rk n B b) : lx B j b := by
  rcases Classical.em (j = b) with q | q
  · subst q; omega
  · rcases lx_tot (B := B) q with g | g
    · exact g
    · have := rk_lt hb g; omega
theorem rk_D {n b : Nat} {B : Nat → Int32} {D : Nat → Prop} (hD : ∀ j i, j < n → i < n → D i → lx B j i → D j) (hb : b < n) : D b ↔ rk n B b < cnt D n := by
  constructor
  · intro h
    exact cnt_st (fun i hi q => hD i b hi hb h q) hb h lx_ir
  · intro h
    rcases Classical.em (D b) with q | q
    · exact q
    · have : cnt D n ≤ rk n B b := cnt_mo (fun i hi k => by
        rcases Classical.em (i = b) with e | e
        · exact absurd (e ▸ k) q
        · rcases lx_tot (B := B) e with g | g
          · exact g
          · exact absurd (hD b i hb hi k g) q)
      omega
theorem rk_sy {n b : Nat} {B : Nat → Int32} (hb : b < n) (h : B n < B b) : rk (n + 1) B b = rk n B b + 1 := cnt_y (Or.inl h)
theorem rk_sn {n b : Nat} {B : Nat → Int32} (hb : b < n) (h : ¬ B n < B b) : rk (n + 1) B b = rk n B b := cnt_n (fun q => q.elim h (fun z => by omega))
theorem rk_nn {n : Nat} {B : Nat → Int32} : rk (n + 1) B n = cnt (fun j => ¬ B n < B j) n := by
  unfold rk
  rw [cnt_n (p := fun j => lx B j n) (n := n) lx_ir]
  exact cnt_c (fun i hi => by
    rw [lx_iff, Int32.lt_iff_toInt_lt]
    omega)
theorem rk_nD {n b : Nat} {B : Nat → Int32} (hb : b < n) : ¬ B n < B b ↔ rk n B b < cnt (fun j => ¬ B n < B j) n :=
  rk_D (D := fun j => ¬ B n < B j) (fun j i _ _ h q => by
    rw [lx_iff] at q
    rw [Int32.lt_iff_toInt_lt] at h ⊢
    omega) hb
theorem rk_c {n b : Nat} {B B' : Nat → Int32} (h : ∀ j, j < n → B j = B' j) (hb : b < n) : rk n B b = rk n B' b :=
  cnt_c (fun i hi => by unfold lx; rw [h i hi, h b hb])
theorem rk_ex (B : Nat → Int32) : ∀ n k, k < n → ∃ b, b < n ∧ rk n B b = k := by
  intro n
  induction n with
  | zero => intro k h; omega
  | succ n ih =>
    intro k hk
    have hle := cnt_le (fun j => ¬ B n < B j) n
    rcases Nat.lt_trichotomy k (cnt (fun j => ¬ B n < B j) n) with h | h | h
    · obtain ⟨b, hb, e⟩ := ih k (by omega)
      exact ⟨b, by omega, by rw [rk_sn hb ((rk_nD hb).mpr (by omega)), e]⟩
    · exact ⟨n, by omega, by rw [rk_nn, h]⟩
    · obtain ⟨b, hb, e⟩ := ih (k - 1) (by omega)
      refine ⟨b, by omega, ?_⟩
      rw [rk_sy hb (Classical.not_not.mp (fun q => by have := (rk_nD hb).mp q; omega)), e]
      omega
noncomputable def ordN (n : Nat) (B : Nat → Int32) (k : Nat) : Nat := Classical.epsilon (fun b => b < n ∧ rk n B b = k)
theorem ordN_sp {n k : Nat} {B : Nat → Int32} (h : k < n) : ordN n B k < n ∧ rk n B (ordN n B k) = k := Classical.epsilon_spec (rk_ex B n k h)
theorem ordN_eq {n k b : Nat} {B : Nat → Int32} (hb : b < n) (h : rk n B b = k) : ordN n B k = b := by
  have hs := Classical.epsilon_spec (p := fun b => b < n ∧ rk n B b = k) ⟨b, hb, h⟩
  exact rk_inj hs.1 hb (hs.2.trans h.symm)
theorem ordN_c {n : Nat} {B B' : Nat → Int32} (h : ∀ j, j < n → B j = B' j) {k : Nat} (hk : k < n) : ordN n B k = ordN n B' k := by
  have hs := ordN_sp (B := B') hk
  exact ordN_eq hs.1 ((rk_c h hs.1).trans hs.2)
