/-! ===== views changed, frames: the pure part's words ===== -/
noncomputable def cif {α : Type} (p : Prop) (a b : α) : α := @ite α p (Classical.propDecidable p) a b
theorem cif_t {α : Type} {p : Prop} {a b : α} (h : p) : cif p a b = a := @if_pos p (Classical.propDecidable p) h α a b
theorem cif_f {α : Type} {p : Prop} {a b : α} (h : ¬ p) : cif p a b = b := @if_neg p (Classical.propDecidable p) h α a b
theorem cif_c {α : Type} {p q : Prop} {a b : α} (h : p ↔ q) : cif p a b = cif q a b := by rw [propext h]
def vup (F : Vw) (k b : Nat) (x : Int32) : Vw := fun k' b' => if k' = k then (if b' = b then x else F k' b') else F k' b'
theorem vup_s {F : Vw} {k b : Nat} {x : Int32} : vup F k b x k b = x := by simp [vup]
theorem vup_k {F : Vw} {k b k' b' : Nat} {x : Int32} (h : ¬ k' = k) : vup F k b x k' b' = F k' b' := by simp [vup, h]
theorem vup_b {F : Vw} {k b k' b' : Nat} {x : Int32} (h : ¬ b' = b) : vup F k b x k' b' = F k' b' := by simp [vup, h]
theorem ui_s {I : Nat → Nat → Int32} {c k : Nat} {x : Int32} : mj_ui I c k x c k = x := by simp [mj_ui]
theorem ui_c {I : Nat → Nat → Int32} {c k c' k' : Nat} {x : Int32} (h : ¬ c' = c) : mj_ui I c k x c' k' = I c' k' := by simp [mj_ui, h]
theorem ui_k {I : Nat → Nat → Int32} {c k c' k' : Nat} {x : Int32} (h : ¬ k' = k) : mj_ui I c k x c' k' = I c' k' := by simp [mj_ui, h]
/-- nothing but S has changed -/
def fr (S : Nat → Nat → Prop) (I I1 : Nat → Nat → Int32) : Prop := ∀ c k, ¬ S c k → I1 c k = I c k
theorem fr_rf {S : Nat → Nat → Prop} {I : Nat → Nat → Int32} : fr S I I := fun _ _ _ => rfl
theorem fr_tr {S : Nat → Nat → Prop} {I I1 I2 : Nat → Nat → Int32} (h : fr S I I1) (h2 : fr S I1 I2) : fr S I I2 := fun c k q => (h2 c k q).trans (h c k q)
theorem fr_mo {S T : Nat → Nat → Prop} {I I1 : Nat → Nat → Int32} (h : fr S I I1) (hs : ∀ c k, S c k → T c k) : fr T I I1 := fun c k q => h c k (fun z => q (hs c k z))
theorem fr_ui {S : Nat → Nat → Prop} {I I1 : Nat → Nat → Int32} {c k : Nat} {x : Int32} (h : fr S I I1) (hs : S c k) : fr S I (mj_ui I1 c k x) := by
  intro c' k' q
  by_cases hc : c' = c
  · by_cases hk : k' = k
    · exact absurd (hc ▸ hk ▸ hs) q
    · rw [ui_k hk]; exact h c' k' q
  · rw [ui_c hc]; exact h c' k' q
/-- the cells of a fleet -/
def SF (f : Nat) : Nat → Nat → Prop := fun c _ => f ≤ c ∧ c ≤ f + 8
theorem jn_ltx {i : Nat} {x : Int32} (h : i < 2147483648) : (nI i < x) = (i < x.toNatClampNeg) := by
  have e : x.toNatClampNeg = x.toInt.toNat := rfl
  rw [Int32.lt_iff_toInt_lt, jn_toInt h, e]
  apply propext
  omega
theorem cl_lt (x : Int32) : x.toNatClampNeg < 2147483648 := by
  have := Int32.toInt_lt x
  rw [Int32.toNatClampNeg]
  omega
theorem jn_ltx0 {x : Int32} : ((0 : Int32) < x) = (0 < x.toNatClampNeg) := jn_ltx (i := 0) (by omega)
theorem nF_ui {I : Nat → Nat → Int32} {f c k : Nat} {x : Int32} (h : ¬ f = c) : nF (mj_ui I c k x) f = nF I f := by unfold nF; rw [ui_c h]
theorem okF_ui {I : Nat → Nat → Int32} {f c k : Nat} {x : Int32} (h : ¬ f = c) (q : okF I f) : okF (mj_ui I c k x) f := by
  unfold okF at *
  rw [nF_ui h, ui_c h]; exact q
theorem nF_u9 {I : Nat → Nat → Int32} {f : Nat} {x : Int32} : nF (mj_ui I f 9 x) f = nF I f := by unfold nF; rw [ui_k (by decide)]
theorem okF_u9 {I : Nat → Nat → Int32} {f : Nat} {x : Int32} (q : okF I f) : okF (mj_ui I f 9 x) f := by
  unfold okF at *
  rw [nF_u9, ui_k (by decide)]; exact q
theorem VF_u9 {I : Nat → Nat → Int32} {f : Nat} {x : Int32} : VF (mj_ui I f 9 x) f = VF I f := by
  funext k b
  unfold VF vF
  rw [nF_u9]
  by_cases hb : b < nF I f
  · by_cases hk : k < 8
    · simp only [hb, hk, if_true]; rw [ui_c (by omega)]
    · simp [hk]
  · simp [hb]
theorem VF_uo {I : Nat → Nat → Int32} {f c k : Nat} {x : Int32} (h : c < f ∨ f + 8 < c) : VF (mj_ui I c k x) f = VF I f := by
  funext k b
  unfold VF vF
  rw [nF_ui (by omega)]
  by_cases hb : b < nF I f
  · by_cases hk : k < 8
    · simp only [hb, hk, if_true]; rw [ui_c (by omega)]
    · simp [hk]
  · simp [hb]
theorem VF_ui {I : Nat → Nat → Int32} {f b : Nat} {x : Int32} (k : Nat) (hk : k < 8) (hb : b < nF I f) : VF (mj_ui I (f + 1 + k) b x) f = vup (VF I f) k b x := by
  funext k' b'
  unfold VF vF vup
  rw [nF_ui (by omega)]
  by_cases h1 : b' < nF I f
  · by_cases h2 : k' < 8
    · simp only [h1, h2, if_true]
      by_cases h3 : k' = k
      · subst h3
        by_cases h4 : b' = b
        · subst h4; simp [ui_s]
        · simp [h4, ui_k h4]
      · simp only [h3, if_false]; rw [ui_c (by omega)]
    · simp only [h1, h2, if_true, if_false]; rw [if_neg (by omega)]
  · simp only [h1, if_false]
    by_cases h3 : k' = k
    · simp only [h3, if_true]; rw [if_neg (by omega)]
    · simp only [h3, if_false]
/-- a fleet that nothing has touched -/
theorem FF_fr {I I1 : Nat → Nat → Int32} {f : Nat} (h : ∀ c k, f ≤ c → c ≤ f + 8 → I1 c k = I c k) : nF I1 f = nF I f ∧ VF I1 f = VF I f ∧ (okF I f → okF I1 f) ∧ I1 f 9 = I f 9 := by
  have e : nF I1 f = nF I f := by unfold nF; rw [h f 8 (by omega) (by omega)]
  refine ⟨e, ?_, fun q => ?_, h f 9 (by omega) (by omega)⟩
  · funext k b
    unfold VF vF
    rw [e]
    by_cases hb : b < nF I f
    · by_cases hk : k < 8
      · simp only [hb, hk, if_true]; rw [h _ _ (by omega) (by omega)]
      · simp [hk]
    · simp [hb]
  · unfold okF at *
    rw [e, h f 8 (by omega) (by omega)]; exact q
theorem MM_fr {I I1 : Nat → Nat → Int32} (h0 : I1 91 22 = I 91 22) (h : ∀ k, I1 105 k = I 105 k) (h2 : ∀ k, I1 106 k = I 106 k) : nM I1 = nM I ∧ VM I1 = VM I ∧ (okM I → okM I1) := by
  have e : nM I1 = nM I := by unfold nM; rw [h0]
  refine ⟨e, ?_, fun q => ?_⟩
  · funext k b
    unfold VM vM
    rw [e]
    by_cases hb : b < nM I
    · by_cases hk : k < 8
      · simp only [hb, hk, if_true]
        have : mC k = 105 ∨ mC k = 106 := by unfold mC; split <;> simp
        rcases this with q | q <;> rw [q]
        · exact h _
        · exact h2 _
      · simp [hk]
    · simp [hb]
  · unfold okM at *
    rw [e, h0]; exact q
theorem nM_ui {I : Nat → Nat → Int32} {c k : Nat} {x : Int32} (h : ¬ 91 = c) : nM (mj_ui I c k x) = nM I := by unfold nM; rw [ui_c h]
theorem nM_uf {I : Nat → Nat → Int32} {k : Nat} {x : Int32} (h : ¬ 22 = k) : nM (mj_ui I 91 k x) = nM I := by unfold nM; rw [ui_k h]
theorem okM_ui {I : Nat → Nat → Int32} {c k : Nat} {x : Int32} (h : ¬ 91 = c) (q : okM I) : okM (mj_ui I c k x) := by
  unfold okM at *
  rw [nM_ui h, ui_c h]; exact q
theorem okM_uf {I : Nat → Nat → Int32} {k : Nat} {x : Int32} (h : ¬ 22 = k) (q : okM I) : okM (mj_ui I 91 k x) := by
  unfold okM at *
  rw [nM_uf h, ui_k h]; exact q
theorem VM_uo {I : Nat → Nat → Int32} {c k : Nat} {x : Int32} (h : ¬ c = 91) (h1 : ¬ c = 105) (h2 : ¬ c = 106) : VM (mj_ui I c k x) = VM I :=
  (MM_fr (ui_c (Ne.symm h)) (fun _ => ui_c (Ne.symm h1)) (fun _ => ui_c (Ne.symm h2))).2.1
theorem VM_uf {I : Nat → Nat → Int32} {k : Nat} {x : Int32} (h : ¬ 22 = k) : VM (mj_ui I 91 k x) = VM I :=
  (MM_fr (ui_k h) (fun _ => ui_c (by decide)) (fun _ => ui_c (by decide))).2.1
theorem VM_us {I : Nat → Nat → Int32} {x : Int32} (hn : nM I ≤ 8) : VM (mj_ui I 106 48 x) = VM I := by
  funext k b
  unfold VM vM
  rw [nM_ui (by decide)]
  by_cases hb : b < nM I
  · by_cases hk : k < 8
    · simp only [hb, hk, if_true]
      rw [ui_k]
      have : mO k ≤ 5 := by unfold mO; split <;> omega
      omega
    · simp [hk]
  · simp [hb]
def mK (j : Nat) : Nat := match j with
  | 0 => 0
  | 1 => 1
  | 2 => 2
  | 3 => 5
  | 4 => 6
  | _ => 7
theorem VM_ui {I : Nat → Nat → Int32} {b : Nat} {x : Int32} (j : Nat) (hj : j < 6) (hb : b < nM I) : VM (mj_ui I 106 (6 * b + j) x) = vup (VM I) (mK j) b x := by
  funext k' b'
  unfold VM vM vup
  rw [nM_ui (by decide)]
  have hk8 : mK j < 8 := by unfold mK; split <;> omega
  by_cases h1 : b' < nM I
  · by_cases h2 : k' < 8
    · simp only [h1, h2, if_true]
      have cases8 : k' = 0 ∨ k' = 1 ∨ k' = 2 ∨ k' = 3 ∨ k' = 4 ∨ k' = 5 ∨ k' = 6 ∨ k' = 7 := by omega
      have cases6 : j = 0 ∨ j = 1 ∨ j = 2 ∨ j = 3 ∨ j = 4 ∨ j = 5 := by omega
      rcases cases6 with rfl | rfl | rfl | rfl | rfl | rfl <;> rcases cases8 with rfl | rfl | rfl | rfl | rfl | rfl | rfl | rfl <;> simp only [mC, mO, mK, mj_ui] <;> simp <;> (try split) <;> (try split) <;> first | rfl | omega
    · simp only [h1, h2, if_true, if_false]; rw [if_neg (by omega)]
  · simp only [h1, if_false]
    by_cases h3 : k' = mK j
    · simp only [h3, if_true]; rw [if_neg (by omega)]
    · simp only [h3, if_false]
theorem VFu_0 {I : Nat → Nat → Int32} {f b : Nat} {x : Int32} (hb : b < nF I f) : VF (mj_ui I (f + 1) b x) f = vup (VF I f) 0 b x := VF_ui 0 (by decide) hb
theorem VFu_1 {I : Nat → Nat → Int32} {f b : Nat} {x : Int32} (hb : b < nF I f) : VF (mj_ui I (f + 2) b x) f = vup (VF I f) 1 b x := VF_ui 1 (by decide) hb
theorem VFu_2 {I : Nat → Nat → Int32} {f b : Nat} {x : Int32} (hb : b < nF I f) : VF (mj_ui I (f + 3) b x) f = vup (VF I f) 2 b x := VF_ui 2 (by decide) hb
theorem VFu_3 {I : Nat → Nat → Int32} {f b : Nat} {x : Int32} (hb : b < nF I f) : VF (mj_ui I (f + 4) b x) f = vup (VF I f) 3 b x := VF_ui 3 (by decide) hb
theorem VFu_4 {I : Nat → Nat → Int32} {f b : Nat} {x : Int32} (hb : b < nF I f) : VF (mj_ui I (f + 5) b x) f = vup (VF I f) 4 b x := VF_ui 4 (by decide) hb
theorem VFu_5 {I : Nat → Nat → Int32} {f b : Nat} {x : Int32} (hb : b < nF I f) : VF (mj_ui I (f + 6) b x) f = vup (VF I f) 5 b x := VF_ui 5 (by decide) hb
theorem VFu_6 {I : Nat → Nat → Int32} {f b : Nat} {x : Int32} (hb : b < nF I f) : VF (mj_ui I (f + 7) b x) f = vup (VF I f) 6 b x := VF_ui 6 (by decide) hb
theorem VFu_7 {I : Nat → Nat → Int32} {f b : Nat} {x : Int32} (hb : b < nF I f) : VF (mj_ui I (f + 8) b x) f = vup (VF I f) 7 b x := VF_ui 7 (by decide) hb
theorem VMu_0 {I : Nat → Nat → Int32} {b : Nat} {x : Int32} (hb : b < nM I) : VM (mj_ui I 106 (6 * b) x) = vup (VM I) 0 b x := VM_ui 0 (by decide) hb
theorem VMu_1 {I : Nat → Nat → Int32} {b : Nat} {x : Int32} (hb : b < nM I) : VM (mj_ui I 106 (6 * b + 1) x) = vup (VM I) 1 b x := VM_ui 1 (by decide) hb
theorem VMu_2 {I : Nat → Nat → Int32} {b : Nat} {x : Int32} (hb : b < nM I) : VM (mj_ui I 106 (6 * b + 2) x) = vup (VM I) 2 b x := VM_ui 2 (by decide) hb
theorem VMu_5 {I : Nat → Nat → Int32} {b : Nat} {x : Int32} (hb : b < nM I) : VM (mj_ui I 106 (6 * b + 3) x) = vup (VM I) 5 b x := VM_ui 3 (by decide) hb
theorem VMu_6 {I : Nat → Nat → Int32} {b : Nat} {x : Int32} (hb : b < nM I) : VM (mj_ui I 106 (6 * b + 4) x) = vup (VM I) 6 b x := VM_ui 4 (by decide) hb
theorem VMu_7 {I : Nat → Nat → Int32} {b : Nat} {x : Int32} (hb : b < nM I) : VM (mj_ui I 106 (6 * b + 5) x) = vup (VM I) 7 b x := VM_ui 5 (by decide) hb
