/-! ===== words of seconds: parts of loops; rules as they are worked out ===== -/
/-- a value that is not to be worked out -/
noncomputable def hid {α : Type} (x : α) : α := Classical.choose (⟨x, rfl⟩ : ∃ y, y = x)
theorem hid_eq {α : Type} (x : α) : hid x = x := Classical.choose_spec (⟨x, rfl⟩ : ∃ y, y = x)
theorem fr_n {S : Nat → Nat → Prop} {I I' : Nat → Nat → Int32} {f : Nat} (h : fr S I I') (hs : ¬ S f 8) : I' f 8 = I f 8 ∧ nF I' f = nF I f := by
  have e := h f 8 hs
  exact ⟨e, by unfold nF; rw [e]⟩
theorem fr_okF {S : Nat → Nat → Prop} {I I' : Nat → Nat → Int32} {f : Nat} (h : fr S I I') (hs : ¬ S f 8) (q : okF I f) : okF I' f := by
  obtain ⟨e1, e2⟩ := fr_n h hs
  unfold okF
  rw [e1, e2]
  exact q
theorem fr_M {S : Nat → Nat → Prop} {I I' : Nat → Nat → Int32} (h : fr S I I') (hs : ¬ S 91 22) : I' 91 22 = I 91 22 ∧ nM I' = nM I := by
  have e := h 91 22 hs
  exact ⟨e, by unfold nM; rw [e]⟩
theorem fr_okM {S : Nat → Nat → Prop} {I I' : Nat → Nat → Int32} (h : fr S I I') (hs : ¬ S 91 22) (q : okM I) : okM I' := by
  obtain ⟨e1, e2⟩ := fr_M h hs
  unfold okM
  rw [e1, e2]
  exact q
theorem earlyV_0 (F : Vw) : earlyV 0 F = F := by
  funext k b
  simp [earlyV]
theorem earlyV_s (n : Nat) (F : Vw) : earlyV (n + 1) F = if F 1 n < 0 then vup (earlyV n F) 7 n 1 else earlyV n F := by
  funext k b
  by_cases h : F 1 n < 0
  · rw [if_pos h]
    simp only [earlyV, vup]
    grind
  · rw [if_neg h]
    simp only [earlyV]
    grind
theorem earlyV_1 (n : Nat) (F : Vw) (b : Nat) : earlyV n F 1 b = F 1 b := by simp [earlyV]
theorem earlyV_7 (n : Nat) (F : Vw) : earlyV n F 7 n = F 7 n := by simp [earlyV]
theorem vup_id (F : Vw) (k b : Nat) : vup F k b (F k b) = F := by
  funext k' b'
  simp only [vup]
  grind
theorem tideV_0 (F : Vw) : tideV 0 F = F := by
  funext k b
  simp [tideV]
theorem tideV_s (n : Nat) (F : Vw) : tideV (n + 1) F = vup (tideV n F) 1 n (F 1 n - 1) := by
  funext k b
  simp only [tideV, vup]
  grind
theorem tideV_1 (n : Nat) (F : Vw) : tideV n F 1 n = F 1 n := by simp [tideV]
/-- asked up to the i-th -/
noncomputable def askI (n : Nat) (C : Nat → Int32) (R : RF) (F : Vw) (s skip : Int32) (i : Nat) : Vw := fun k b => if k = 2 then (if b < i then (if nI b = skip then F 2 b else asp (F 2 b) (F 3 b) (R (F 5 b) (lettV n C F s b))) else F k b) else F k b
theorem askI_V (n : Nat) (C : Nat → Int32) (R : RF) (F : Vw) (s skip : Int32) : askI n C R F s skip n = askV n C R F s skip := rfl
theorem askI_0 (n : Nat) (C : Nat → Int32) (R : RF) (F : Vw) (s skip : Int32) : askI n C R F s skip 0 = F := by
  funext k b
  simp [askI]
theorem askI_s (n : Nat) (C : Nat → Int32) (R : RF) (F : Vw) (s skip : Int32) (i : Nat) : askI n C R F s skip (i + 1) = vup (askI n C R F s skip i) 2 i (if nI i = skip then F 2 i else asp (F 2 i) (F 3 i) (R (F 5 i) (lettV n C F s i))) := by
  funext k b
  simp only [askI, vup]
  grind
theorem askI_k {n : Nat} {C : Nat → Int32} {R : RF} {F : Vw} {s skip : Int32} {i k b : Nat} (h : ¬ k = 2) : askI n C R F s skip i k b = F k b := by simp [askI, h]
theorem askI_2 {n : Nat} {C : Nat → Int32} {R : RF} {F : Vw} {s skip : Int32} {i : Nat} : askI n C R F s skip i 2 i = F 2 i := by simp [askI]
/-- what speeds don't matter for -/
theorem held_c {n : Nat} {F G : Vw} {x y : Int32} (h0 : ∀ b, F 0 b = G 0 b) (h1 : ∀ b, F 1 b = G 1 b) : held n F x y = held n G x y := by simp only [held, h0, h1]
theorem shad_c {n : Nat} {F G : Vw} {b : Nat} (h0 : ∀ b, F 0 b = G 0 b) (h1 : ∀ b, F 1 b = G 1 b) : shad n F b = shad n G b := by simp only [shad, besd, h0, h1]
theorem nbs_c {n : Nat} {F G : Vw} {b : Nat} (h0 : ∀ b, F 0 b = G 0 b) : nbs n F b = nbs n G b := by simp only [nbs, besd, h0]
theorem lee_c {n : Nat} {F G : Vw} {b : Nat} (h0 : ∀ b, F 0 b = G 0 b) (h1 : ∀ b, F 1 b = G 1 b) : lee n F b = lee n G b := by simp only [lee, held, h0, h1]
/-! rules: a piece is a list of steps; numbers below 10000, letters 10000 .. 10006, signs 20000 .. 20009 -/
def bnd (x : Int) : Int := if 1000000 < x then 1000000 else if x < -1000000 then -1000000 else x
def jnI (x a b : Int) : Int := if x = 20000 then a + b else if x = 20001 then a - b else if x = 20002 then a * b else if x = 20003 then (if b = 0 then 0 else a.tdiv b) else if x = 20004 then (if a = b then 1 else 0) else if x = 20005 then (if a < b then 1 else 0) else if x = 20006 then (if b < a then 1 else 0) else if x = 20007 then (if a ≠ 0 ∧ b ≠ 0 then 1 else 0) else (if a ≠ 0 ∨ b ≠ 0 then 1 else 0)
/-- one step on a pile of numbers -/
def stC (L : Nat → Int32) (x : Int32) (st : List Int) : List Int :=
  if x.toInt < 10000 then x.toInt :: st else if x.toInt < 20000 then (L (x.toInt - 10000).toNat).toInt :: st else match st with
  | [] => []
  | a :: st1 => if x.toInt = 20009 then (1 - a) :: st1 else match st1 with
    | [] => []
    | b :: st2 => bnd (jnI x.toInt b a) :: st2
def exC (L : Nat → Int32) : List Int32 → List Int → List Int
  | [], st => st
  | x :: xs, st => exC L xs (stC L x st)
def valC (L : Nat → Int32) (xs : List Int32) : Int := (exC L xs []).headD 0
def worthL (L : Nat → Int32) : List (List Int32 × List Int32) → Int
  | [] => 0
  | (t, s) :: r => if t = [] ∨ valC L t ≠ 0 then valC L s else worthL L r
/-- kinds of what lies on the pile (true: 0 or 1), 30 at most -/
def tyS (x : Int32) (ks : List Bool) : Option (List Bool) :=
  if 0 ≤ x.toInt ∧ x.toInt < 10007 then (if ks.length < 30 then some (false :: ks) else none) else
  if x.toInt = 20009 then (match ks with
    | true :: r => some (true :: r)
    | _ => none) else
  if 20000 ≤ x.toInt ∧ x.toInt ≤ 20003 then (match ks with
    | false :: false :: r => some (false :: r)
    | _ => none) else
  if 20004 ≤ x.toInt ∧ x.toInt ≤ 20006 then (match ks with
    | false :: false :: r => some (true :: r)
    | _ => none) else
  if 20007 ≤ x.toInt ∧ x.toInt ≤ 20008 then (match ks with
    | true :: true :: r => some (true :: r)
    | _ => none) else none
def tyL : List Int32 → List Bool → Option (List Bool)
  | [], ks => some ks
  | x :: xs, ks => match tyS x ks with
    | some k2 => tyL xs k2
    | none => none
abbrev KT : Type := Nat → List (List Int32 × List Int32)
/-- a clause as the class keeps it, from o on -/
def blkC (o : Nat) (t s : List Int32) : List Int32 := if t = [] then s ++ [20010] else t ++ (nI (30000 + (o + t.length + s.length + 2)) :: (s ++ [20010]))
def flatK : Nat → List (List Int32 × List Int32) → List Int32
  | _, [] => []
  | o, (t, s) :: r => blkC o t s ++ flatK (o + (blkC o t s).length) r
def clOk (q : List Int32 × List Int32) : Prop := (q.1 = [] ∨ tyL q.1 [] = some [true]) ∧ tyL q.2 [] = some [false]
/-- the class's cells hold the rules K, n of them -/
def RK (I : Nat → Nat → Int32) (n : Nat) (K : KT) : Prop := I 3 3 = nI n ∧ n ≤ 4 ∧ ∀ r, r < n → (∀ q ∈ K r, clOk q) ∧ (flatK 0 (K r)).length ≤ 240 ∧ I 9 r = nI (flatK 0 (K r)).length ∧ ∀ j, j < (flatK 0 (K r)).length → I (5 + r) j = (flatK 0 (K r)).getD j 0
def rfK (n : Nat) (K : KT) : RF := fun r L => if 0 ≤ r ∧ r < nI n then Int32.ofInt (worthL L (K r.toNatClampNeg)) else 0
def RuC (I : Nat → Nat → Int32) (n : Nat) (R : RF) : Prop := ∃ K : KT, RK I n K ∧ R = rfK n K
theorem RuC_fr {I I1 : Nat → Nat → Int32} {n : Nat} {R : RF} (h : RuC I n R) (e : ∀ c k, 3 ≤ c → c ≤ 9 → I1 c k = I c k) : RuC I1 n R := by
  obtain ⟨K, ⟨h1, h2, h3⟩, h4⟩ := h
  refine ⟨K, ⟨by rw [e 3 3 (by omega) (by omega)]; exact h1, h2, fun r hr => ?_⟩, h4⟩
  obtain ⟨g1, g2, g3, g4⟩ := h3 r hr
  exact ⟨g1, g2, by rw [e 9 r (by omega) (by omega)]; exact g3, fun j hj => by rw [e (5 + r) j (by omega) (by omega)]; exact g4 j hj⟩
theorem rfK_0 {n : Nat} {K : KT} {r : Int32} {L : Nat → Int32} (h : ¬ (0 ≤ r ∧ r < nI n)) : rfK n K r L = 0 := if_neg h
/-- letters that may be asked for -/
def letB (L : Nat → Int32) : Prop := ∀ j, -1000000 ≤ (L j).toInt ∧ (L j).toInt ≤ 1000000
/-- all of a fleet on a line; all of the reference's -/
def FC (u : Int) (I : Nat → Nat → Int32) (c f : Nat) : Prop := okF I f ∧ FOk u (nF I f) (lv7 (I (c + 1))) (VF I f) (I f 9)
def FM (u : Int) (I : Nat → Nat → Int32) : Prop := okM I ∧ FOk u (nM I) (lv7 (I 104)) (VM I) (I 106 48)
theorem FOk_col {u : Int} {n : Nat} {C : Nat → Int32} {F : Vw} {s : Int32} (h : FOk u n C F s) : colB n F := by
  intro b hb
  have h1 := h.1.1
  have h2 := (h.2.2 b hb).1
  omega
theorem lettV_b {u : Int} {n : Nat} {C : Nat → Int32} {F : Vw} {s : Int32} {b : Nat} (hu : u ≤ 1000) (hn : n ≤ 8) (h : FOk u n C F s) (hb : b < n) : letB (lettV n C F s b) := by
  obtain ⟨hl, hs, hF⟩ := h
  obtain ⟨l0, l1, l2, l3, l4, l5, l6⟩ := hl
  obtain ⟨b0, b1, b2, b3, b4⟩ := hF b hb
  have i5 : (5 : Int32).toInt = 5 := rfl
  intro j
  unfold lettV
  split
  · unfold blv
    split
    · omega
    · have e1 : (F 1 b + 5).toInt = (F 1 b).toInt + 5 := i_add (y := 5) (by omega)
      rw [i_sub (by omega), e1]
      omega
  · rw [i_sub (by omega)]; omega
  · omega
  · omega
  · have := cnt_le (fun i => ¬ i = b ∧ besd F b i) n
    have h9 : nbs n F b ≤ 8 := Nat.le_trans this hn
    rw [jn_toInt (by omega)]
    omega
  · rcases b2i_or (shad n F b) with q | q <;> rw [q] <;> decide
  · rcases b2i_or (lee n F b) with q | q <;> rw [q] <;> decide
  · decide
