/-! ===== numbers, loops, views ===== -/
theorem jn_toInt {a : Nat} (h : a < 2147483648) : (nI a).toInt = a := Int32.toInt_ofNat_of_lt h
theorem jn_lt {a b : Nat} (ha : a < 2147483648) (hb : b < 2147483648) : (nI a < nI b) = (a < b) := by
  rw [Int32.lt_iff_toInt_lt, jn_toInt ha, jn_toInt hb]; simp
theorem jn_le {a b : Nat} (ha : a < 2147483648) (hb : b < 2147483648) : (nI a ≤ nI b) = (a ≤ b) := by
  rw [Int32.le_iff_toInt_le, jn_toInt ha, jn_toInt hb]; simp
theorem jn_eq {a b : Nat} (ha : a < 2147483648) (hb : b < 2147483648) : (nI a = nI b) = (a = b) := by
  rw [← Int32.toInt_inj, jn_toInt ha, jn_toInt hb]; exact propext Int.ofNat_inj
theorem jn_add (a b : Nat) : nI a + nI b = nI (a + b) := (Int32.ofNat_add a b).symm
theorem jn_mul (a b : Nat) : nI a * nI b = nI (a * b) := (Int32.ofNat_mul a b).symm
theorem jn_succ (a : Nat) : nI a + 1 = nI (a + 1) := jn_add a 1
theorem jn_cl {a : Nat} (h : a < 2147483648) : (nI a).toNatClampNeg = a := by
  rw [Int32.toNatClampNeg, jn_toInt h]; simp
theorem jn_in {a n : Nat} (h : a < 2147483648) : mj_inB (nI a) n = decide (a < n) := by
  rw [mj_inB, jn_cl h]
  have : (0 : Int32) ≤ nI a := by rw [show (0 : Int32) = nI 0 from rfl, jn_le (by omega) h]; omega
  simp [this]
theorem jn_of {x : Int32} (h : 0 ≤ x) : x = nI x.toNatClampNeg := by
  have h0 : 0 ≤ x.toInt := by rw [Int32.le_iff_toInt_le] at h; simpa using h
  have h1 : x.toInt < 2147483648 := Int32.toInt_lt x
  apply Int32.toInt_inj.mp
  rw [jn_toInt (by rw [Int32.toNatClampNeg]; omega), Int32.toNatClampNeg]
  omega
theorem jn_sub {a b : Nat} (h : b ≤ a) : nI a - nI b = nI (a - b) := by
  have := jn_add (a - b) b
  rw [Nat.sub_add_cancel h] at this
  rw [← this]
  exact Int32.add_sub_cancel _ _
theorem i32 (k : Nat) : (OfNat.ofNat k : Int32) = nI k := rfl
theorem n6_0 (i : Nat) : (6 : Int32) * nI i + 0 = nI (6 * i) := by rw [show (6 : Int32) = nI 6 from rfl, jn_mul]; exact Int32.add_zero _
theorem n6_1 (i : Nat) : (6 : Int32) * nI i + 1 = nI (6 * i + 1) := by rw [show (6 : Int32) = nI 6 from rfl, jn_mul]; exact jn_add _ 1
theorem n6_2 (i : Nat) : (6 : Int32) * nI i + 2 = nI (6 * i + 2) := by rw [show (6 : Int32) = nI 6 from rfl, jn_mul]; exact jn_add _ 2
theorem n6_3 (i : Nat) : (6 : Int32) * nI i + 3 = nI (6 * i + 3) := by rw [show (6 : Int32) = nI 6 from rfl, jn_mul]; exact jn_add _ 3
theorem n6_4 (i : Nat) : (6 : Int32) * nI i + 4 = nI (6 * i + 4) := by rw [show (6 : Int32) = nI 6 from rfl, jn_mul]; exact jn_add _ 4
theorem n6_5 (i : Nat) : (6 : Int32) * nI i + 5 = nI (6 * i + 5) := by rw [show (6 : Int32) = nI 6 from rfl, jn_mul]; exact jn_add _ 5
theorem gd_pos {b : Bool} {K : Prop} (hb : b = true) (h : K) : mj_gd b K := mj_gd_iff.mpr ⟨hb, h⟩
theorem gd_in {a n : Nat} {K : Prop} (ha : a < 2147483648) (hn : a < n) (h : K) : mj_gd (mj_inB (nI a) n) K := gd_pos (by rw [jn_in ha]; simpa using hn) h
theorem gd_true {K : Prop} : mj_gd true K = K := rfl
theorem gd_dec {p : Prop} [Decidable p] {K : Prop} (hp : p) : mj_gd (decide p) K = K := by simp [hp, mj_gd]
/-- a loop that counts up to n -/
theorem lp_inv {σ : Type} {n : Nat} {G : Nat → σ → Prop} (Inv : Nat → σ → Prop) (step : ∀ i s, i < n → Inv i s → (∀ s', Inv (i + 1) s' → G (i + 1) s') → G i s) (fin : ∀ s, Inv n s → G n s) : ∀ k i s, i + k = n → Inv i s → G i s := by
  intro k
  induction k with
  | zero => intro i s h hI; obtain rfl : i = n := by omega
            exact fin s hI
  | succ k ih => intro i s h hI; exact step i s (by omega) hI (fun s' hI' => ih (i + 1) s' (by omega) hI')
/-- a loop that looks for the first one -/
theorem lp_find {n : Nat} {G : Nat → Prop} (p : Nat → Prop) {A B : Prop} (step : ∀ i, i < n → (p i → A) → (¬ p i → G (i + 1)) → G i) (fin : B → G n) (h1 : (∃ i, i < n ∧ p i) → A) (h0 : (¬ ∃ i, i < n ∧ p i) → B) : ∀ k i, i + k = n → (∀ j, j < i → ¬ p j) → G i := by
  intro k
  induction k with
  | zero => intro i h hI; obtain rfl : i = n := by omega
            exact fin (h0 (fun ⟨j, hj, hp⟩ => hI j hj hp))
  | succ k ih => 
    intro i h hI
    refine step i (by omega) (fun hp => h1 ⟨i, by omega, hp⟩) (fun hp => ih (i + 1) (by omega) (fun j hj => ?_))
    rcases Nat.lt_or_ge j i with q | q
    · exact hI j q
    · rw [show j = i by omega]; exact hp
noncomputable def b2i (p : Prop) : Int32 := @ite Int32 p (Classical.propDecidable p) 1 0
theorem b2i_1 {p : Prop} (h : p) : b2i p = 1 := @if_pos p (Classical.propDecidable p) h Int32 1 0
theorem b2i_0 {p : Prop} (h : ¬ p) : b2i p = 0 := @if_neg p (Classical.propDecidable p) h Int32 1 0
theorem b2i_e1 {p : Prop} : (b2i p = 1) = p := by
  rcases Classical.em p with h | h
  · rw [b2i_1 h]; simp [h]
  · rw [b2i_0 h]; simp [h]
theorem b2i_e0 {p : Prop} : (b2i p = 0) = ¬ p := by
  rcases Classical.em p with h | h
  · rw [b2i_1 h]; simp [h]
  · rw [b2i_0 h]; simp [h]
theorem b2i_c {p q : Prop} (h : p ↔ q) : b2i p = b2i q := by rw [propext h]
theorem b2i_or (p : Prop) : b2i p = 0 ∨ b2i p = 1 := by
  rcases Classical.em p with h | h
  · exact Or.inr (b2i_1 h)
  · exact Or.inl (b2i_0 h)
theorem b2i_gd {p : Prop} {K : Prop} (h : K) : mj_gd (decide (b2i p = 0) || decide (b2i p = 1)) K := gd_pos (by rcases b2i_or p with q | q <;> simp [q]) h
/-- boats as they are seen: attribute, boat -/
abbrev Vw : Type := Nat → Nat → Int32
def vF (n : Nat) (I : Nat → Nat → Int32) (f : Nat) : Vw := fun k b => if b < n then (if k < 8 then I (f + 1 + k) b else 0) else 0
def mC (k : Nat) : Nat := match k with
  | 3 => 105
  | 4 => 105
  | _ => 106
def mO (k : Nat) : Nat := match k with
  | 1 => 1
  | 2 => 2
  | 3 => 3
  | 4 => 4
  | 5 => 3
  | 6 => 4
  | 7 => 5
  | _ => 0
def vM (n : Nat) (I : Nat → Nat → Int32) : Vw := fun k b => if b < n then (if k < 8 then I (mC k) (6 * b + mO k) else 0) else 0
theorem vF_at {n f b : Nat} {I : Nat → Nat → Int32} (k : Nat) (hb : b < n) (hk : k < 8) : vF n I f k b = I (f + 1 + k) b := by simp [vF, hb, hk]
theorem vM_at {n b : Nat} {I : Nat → Nat → Int32} (k : Nat) (hb : b < n) (hk : k < 8) : vM n I k b = I (mC k) (6 * b + mO k) := by simp [vM, hb, hk]
def nF (I : Nat → Nat → Int32) (f : Nat) : Nat := (I f 8).toNatClampNeg
def nM (I : Nat → Nat → Int32) : Nat := (I 91 22).toNatClampNeg
def VF (I : Nat → Nat → Int32) (f : Nat) : Vw := vF (nF I f) I f
def VM (I : Nat → Nat → Int32) : Vw := vM (nM I) I
/-- how many, as a number -/
def okF (I : Nat → Nat → Int32) (f : Nat) : Prop := I f 8 = nI (nF I f) ∧ nF I f ≤ 8
def okM (I : Nat → Nat → Int32) : Prop := I 91 22 = nI (nM I) ∧ nM I ≤ 8
theorem VF_at {f b : Nat} {I : Nat → Nat → Int32} (k : Nat) (hb : b < nF I f) (hk : k < 8) : VF I f k b = I (f + 1 + k) b := vF_at k hb hk
theorem VM_at {b : Nat} {I : Nat → Nat → Int32} (k : Nat) (hb : b < nM I) (hk : k < 8) : VM I k b = I (mC k) (6 * b + mO k) := vM_at k hb hk
theorem VF_0 {f b : Nat} {I : Nat → Nat → Int32} (hb : b < nF I f) : VF I f 0 b = I (f + 1) b := by simp [VF, vF, hb]
theorem VF_1 {f b : Nat} {I : Nat → Nat → Int32} (hb : b < nF I f) : VF I f 1 b = I (f + 2) b := by simp [VF, vF, hb]
theorem VF_2 {f b : Nat} {I : Nat → Nat → Int32} (hb : b < nF I f) : VF I f 2 b = I (f + 3) b := by simp [VF, vF, hb]
theorem VF_3 {f b : Nat} {I : Nat → Nat → Int32} (hb : b < nF I f) : VF I f 3 b = I (f + 4) b := by simp [VF, vF, hb]
theorem VF_4 {f b : Nat} {I : Nat → Nat → Int32} (hb : b < nF I f) : VF I f 4 b = I (f + 5) b := by simp [VF, vF, hb]
theorem VF_5 {f b : Nat} {I : Nat → Nat → Int32} (hb : b < nF I f) : VF I f 5 b = I (f + 6) b := by simp [VF, vF, hb]
theorem VF_6 {f b : Nat} {I : Nat → Nat → Int32} (hb : b < nF I f) : VF I f 6 b = I (f + 7) b := by simp [VF, vF, hb]
theorem VF_7 {f b : Nat} {I : Nat → Nat → Int32} (hb : b < nF I f) : VF I f 7 b = I (f + 8) b := by simp [VF, vF, hb]
theorem VM_0 {b : Nat} {I : Nat → Nat → Int32} (hb : b < nM I) : VM I 0 b = I 106 (6 * b) := by simp [VM, vM, hb, mC, mO]
theorem VM_1 {b : Nat} {I : Nat → Nat → Int32} (hb : b < nM I) : VM I 1 b = I 106 (6 * b + 1) := by simp [VM, vM, hb, mC, mO]
theorem VM_2 {b : Nat} {I : Nat → Nat → Int32} (hb : b < nM I) : VM I 2 b = I 106 (6 * b + 2) := by simp [VM, vM, hb, mC, mO]
theorem VM_3 {b : Nat} {I : Nat → Nat → Int32} (hb : b < nM I) : VM I 3 b = I 105 (6 * b + 3) := by simp [VM, vM, hb, mC, mO]
theorem VM_4 {b : Nat} {I : Nat → Nat → Int32} (hb : b < nM I) : VM I 4 b = I 105 (6 * b + 4) := by simp [VM, vM, hb, mC, mO]
theorem VM_5 {b : Nat} {I : Nat → Nat → Int32} (hb : b < nM I) : VM I 5 b = I 106 (6 * b + 3) := by simp [VM, vM, hb, mC, mO]
theorem VM_6 {b : Nat} {I : Nat → Nat → Int32} (hb : b < nM I) : VM I 6 b = I 106 (6 * b + 4) := by simp [VM, vM, hb, mC, mO]
theorem VM_7 {b : Nat} {I : Nat → Nat → Int32} (hb : b < nM I) : VM I 7 b = I 106 (6 * b + 5) := by simp [VM, vM, hb, mC, mO]
def isB (n : Nat) (b : Int32) : Prop := b = nI b.toNatClampNeg ∧ b.toNatClampNeg < n
theorem isB_nI {n i : Nat} (h : i < n) (hn : n ≤ 8) : isB n (nI i) := by
  unfold isB
  rw [jn_cl (by omega)]
  exact ⟨rfl, h⟩
/-- a loop that answers whether there is one -/
theorem lp_any {n : Nat} {G : Nat → Prop} {Ψ : Int32 → Prop} (p : Nat → Prop) (step : ∀ i, i < n → (p i → Ψ 1) → (¬ p i → G (i + 1)) → G i) (fin : Ψ 0 → G n) (h : Ψ (b2i (∃ i, i < n ∧ p i))) : G 0 :=
  lp_find (A := Ψ 1) (B := Ψ 0) p step fin (fun he => by rwa [b2i_1 he] at h) (fun he => by rwa [b2i_0 he] at h) n 0 (by omega) (fun j hj => absurd hj (Nat.not_lt_zero j))
/-- how many there are below n -/
noncomputable def cnt (p : Nat → Prop) : Nat → Nat
  | 0 => 0
  | n + 1 => cnt p n + @ite Nat (p n) (Classical.propDecidable _) 1 0
theorem cnt_y {p : Nat → Prop} {n : Nat} (h : p n) : cnt p (n + 1) = cnt p n + 1 := by
  rw [cnt, @if_pos (p n) (Classical.propDecidable _) h]
theorem cnt_n {p : Nat → Prop} {n : Nat} (h : ¬ p n) : cnt p (n + 1) = cnt p n := by
  rw [cnt, @if_neg (p n) (Classical.propDecidable _) h]; rfl
theorem cnt_le (p : Nat → Prop) (n : Nat) : cnt p n ≤ n := by
  induction n with
  | zero => exact Nat.le_refl _
  | succ n ih =>
    rcases Classical.em (p n) with h | h
    · rw [cnt_y h]; omega
    · rw [cnt_n h]; omega
theorem cnt_c {p q : Nat → Prop} {n : Nat} (h : ∀ i, i < n → (p i ↔ q i)) : cnt p n = cnt q n := by
  induction n with
  | zero => rfl
  | succ n ih =>
    have := ih (fun i hi => h i (by omega))
    rcases Classical.em (p n) with k | k
    · rw [cnt_y k, cnt_y ((h n (by omega)).mp k), this]
    · rw [cnt_n k, cnt_n (fun q => k ((h n (by omega)).mpr q)), this]
/-- a loop that counts -/
theorem lp_cnt {n : Nat} {G : Nat → Nat → Prop} (p : Nat → Prop) (step : ∀ i s, i < n → s ≤ i → (p i → G (i + 1) (s + 1)) → (¬ p i → G (i + 1) s) → G i s) (fin : G n (cnt p n)) : G 0 0 := by
  have := lp_inv (σ := Nat) (n := n) (G := G) (fun i s => s = cnt p i) (fun i s hi hs hk => step i s hi (by rw [hs]; exact cnt_le p i) (fun q => hk _ (by rw [cnt_y q, hs])) (fun q => hk _ (by rw [cnt_n q, hs]))) (fun s hs => by rw [hs]; exact fin) n 0 0 (by omega) rfl
  exact this
def held (n : Nat) (F : Vw) (x y : Int32) : Prop := ∃ i, i < n ∧ F 0 i = x ∧ F 1 i = y
def besd (F : Vw) (b i : Nat) : Prop := ¬ F 0 b - F 0 i < -1 ∧ ¬ 1 < F 0 b - F 0 i
def shad (n : Nat) (F : Vw) (b : Nat) : Prop := ∃ i, i < n ∧ ¬ F 1 b - F 1 i < 1 ∧ ¬ 3 < F 1 b - F 1 i ∧ besd F b i
noncomputable def nbs (n : Nat) (F : Vw) (b : Nat) : Nat := cnt (fun i => ¬ i = b ∧ besd F b i) n
/-- columns are small -/
def colB (n : Nat) (F : Vw) : Prop := ∀ b, b < n → 0 ≤ (F 0 b).toInt ∧ (F 0 b).toInt < 20
theorem abs_sm {x y : Int32} (hx : 0 ≤ x.toInt ∧ x.toInt < 20) (hy : 0 ≤ y.toInt ∧ y.toInt < 20) : (1 < (if (0 : Int32) ≤ x - y then x - y else 0 - (x - y))) = ¬ (¬ y - x < -1 ∧ ¬ 1 < y - x) := by
  have e1 : (x - y).toInt = x.toInt - y.toInt := by rw [Int32.toInt_sub]; exact Int.bmod_eq_of_le (by omega) (by omega)
  have e2 : (y - x).toInt = y.toInt - x.toInt := by rw [Int32.toInt_sub]; exact Int.bmod_eq_of_le (by omega) (by omega)
  have e3 : (0 - (x - y)).toInt = y.toInt - x.toInt := by rw [Int32.toInt_sub, e1]; rw [Int.bmod_eq_of_le] <;> simp <;> omega
  have l1 : (1 : Int32).toInt = 1 := rfl
  have l0 : (0 : Int32).toInt = 0 := rfl
  have lm : (-1 : Int32).toInt = -1 := rfl
  split
  · rename_i h
    rw [Int32.le_iff_toInt_le, e1, l0] at h
    simp only [Int32.lt_iff_toInt_lt, e1, e2, l1, lm, eq_iff_iff]
    omega
  · rename_i h
    rw [Int32.le_iff_toInt_le, e1, l0] at h
    simp only [Int32.lt_iff_toInt_lt, e3, e2, l1, lm, eq_iff_iff]
    omega
/-- the boats' rows and lines that seconds pass over -/
def isF3 (f : Nat) : Prop := f = 39 ∨ f = 48 ∨ f = 57
def isC2 (c : Nat) : Prop := c = 26 ∨ c = 28
def isCF (c f : Nat) : Prop := (c = 26 ∧ f = 39) ∨ (c = 26 ∧ f = 48) ∨ (c = 26 ∧ f = 57) ∨ (c = 28 ∧ f = 48)
theorem isCF_f {c f : Nat} (h : isCF c f) : isF3 f := by unfold isCF at h; unfold isF3; omega
theorem isCF_c {c f : Nat} (h : isCF c f) : isC2 c := by unfold isCF at h; unfold isC2; omega
theorem isF3_b {f : Nat} (h : isF3 f) : 39 ≤ f ∧ f ≤ 57 := by unfold isF3 at h; omega
theorem isC2_b {c : Nat} (h : isC2 c) : 26 ≤ c ∧ c ≤ 28 := by unfold isC2 at h; omega
