/-! ===== was, points, champion (by program, wip/whole/p59.py) ===== -/
def wasP (c lo hi w : Int32) : Prop := 0 < c ∧ ((w = 2 ∧ hi < lo) ∨ (¬ w = 2 ∧ ¬ hi < lo ∧ ((w = 0 ∧ lo < 0) ∨ (¬ w = 0 ∧ hi < 0))))
noncomputable def wasR (n : Nat) (W : Nat → Prop) (w : Int32) : Int32 := cif (0 < n ∧ ¬ w < 0 ∧ ¬ 2 < w) (whN W n) (-1)
noncomputable def pointsR (n : Nat) (f : Nat → Int32) (b : Int32) : Int32 := cif (okBN n b) (f b.toNatClampNeg) (-1)
def amn (f : Nat → Int32) : Nat → Nat
  | 0 => 0
  | 1 => 0
  | n + 2 => if f (n + 1) < f (amn f (n + 1)) then n + 1 else amn f (n + 1)
theorem amn_s {f : Nat → Int32} {n : Nat} (h : 0 < n) : amn f (n + 1) = if f n < f (amn f n) then n else amn f n := by
  match n, h with
  | n + 1, _ => rfl
theorem amn_b {f : Nat → Int32} : ∀ n, 0 < n → amn f n < n := by
  intro n
  induction n with
  | zero => intro h; omega
  | succ n ih =>
    intro _
    rcases Nat.eq_zero_or_pos n with q | q
    · subst q; exact Nat.zero_lt_one
    · rw [amn_s q]
      have := ih q
      split <;> omega
noncomputable def champR (r n : Nat) (f : Nat → Int32) : Int32 := cif (0 < n ∧ ¬ r = 0) (nI (amn f n)) (-1)
theorem w012 {w : Int32} (h0 : ¬ w < 0) (h2 : ¬ 2 < w) : w = 0 ∨ w = 1 ∨ w = 2 := by
  have i2 : (2 : Int32).toInt = 2 := rfl
  rw [Int32.lt_iff_toInt_lt, i_0] at h0
  rw [Int32.lt_iff_toInt_lt, i2] at h2
  have : w.toInt = 0 ∨ w.toInt = 1 ∨ w.toInt = 2 := by omega
  rcases this with q | q | q
  · exact Or.inl (Int32.toInt_inj.mp (q.trans i_0.symm))
  · exact Or.inr (Or.inl (Int32.toInt_inj.mp (q.trans i_1.symm)))
  · exact Or.inr (Or.inr (Int32.toInt_inj.mp (q.trans i2.symm)))
theorem n8_b (i b : Nat) : (8 : Int32) * nI i + nI b = nI (8 * i + b) := by rw [show (8 : Int32) = nI 8 from rfl, jn_mul, jn_add]
def csX12_wasSo : List (Nat × Nat × Nat × mj_PT) := [(295, 1, 2, mj_ptmx), (321, 1, 2, mj_ptmn)]
theorem csX12_wasSo_ok : mj_Cs mX12_wasSo 2 csX12_wasSo := (mj_Csmx (Nat.le_of_ble_eq_true rfl) l12_295 (mj_Csmn (Nat.le_of_ble_eq_true rfl) l12_321 mj_Cs0))
def cutX12_wasSo : List (Nat × List Bool) := [(13, [true, true, true, true, true, true, true])]
set_option maxRecDepth 100000 in
set_option maxHeartbeats 4000000 in
theorem inX12_wasSo {Ω : mj_Om} {l : Launch} {d : Nat} {Φ : Option Value → mj_M → Prop} (hd : 2 ≤ d) (b_ : Int32) (w : Int32) (I : Nat → Nat → Int32) (J : Nat → Nat → Int64)
    (h : ((mj_G Ω l false mX12_wasSo d 0 0 Φ 0 0 13 ([some (.ref 91), some (.int b_), some (.int w), some (.int (-20 : Int32)), some (.int (20 : Int32)), some (.int (0 : Int32)), some (.int (0 : Int32))], [], (mk I J))))) :
    mj_Met Ω l false mX12_wasSo d 0 0 [.ref 91, .int b_, .int w] (mk I J) Φ := mj_entry (by decide) rfl (fun h => (by cases h)) (Nat.le_of_ble_eq_true rfl) (mj_blk (μ := mX12_wasSo) (P := pX12_wasSo) (cut := cutX12_wasSo) (cs := csX12_wasSo) dX12_wasSo csX12_wasSo_ok hd 58 0 _ h)
set_option maxRecDepth 100000 in
set_option maxHeartbeats 4000000 in
theorem bX12_wasSo_13 {Ω : mj_Om} {l : Launch} {d : Nat} {Φ : Option Value → mj_M → Prop} (hd : 2 ≤ d) (x1 : Int32) (x2 : Int32) (x3 : Int32) (x4 : Int32) (x5 : Int32) (x6 : Int32) (I : Nat → Nat → Int32) (J : Nat → Nat → Int64)
    (h : ((if x6 < (I 91 40) then (mj_gd (mj_inB x6 12) (if (I 115 (x6).toNatClampNeg) = x1 then (mj_gd (mj_inB x6 12) (mj_gd (mj_inB x6 12) (mj_G Ω l false mX12_wasSo d 0 0 Φ 0 0 13 ([some (.ref 91), some (.int x1), some (.int x2), some (.int (if x3 < (I 116 (x6).toNatClampNeg) then (I 116 (x6).toNatClampNeg) else x3)), some (.int (if (I 117 (x6).toNatClampNeg) < x4 then (I 117 (x6).toNatClampNeg) else x4)), some (.int (x5 + (1 : Int32))), some (.int (x6 + (1 : Int32)))], [], (mk I J))))) else (mj_G Ω l false mX12_wasSo d 0 0 Φ 0 0 13 ([some (.ref 91), some (.int x1), some (.int x2), some (.int x3), some (.int x4), some (.int x5), some (.int (x6 + (1 : Int32)))], [], (mk I J))))) else (if (0 : Int32) < x5 then (if x2 = (2 : Int32) then (if x4 < x3 then (Φ (some (.int (1 : Int32))) (mk I J)) else (Φ (some (.int (0 : Int32))) (mk I J))) else (if x4 < x3 then (Φ (some (.int (0 : Int32))) (mk I J)) else (if x2 = (0 : Int32) then (if x3 < (0 : Int32) then (Φ (some (.int (1 : Int32))) (mk I J)) else (Φ (some (.int (0 : Int32))) (mk I J))) else (if x4 < (0 : Int32) then (Φ (some (.int (1 : Int32))) (mk I J)) else (Φ (some (.int (0 : Int32))) (mk I J)))))) else (Φ (some (.int (0 : Int32))) (mk I J)))))) :
    mj_G Ω l false mX12_wasSo d 0 0 Φ 0 0 13 ([some (.ref 91), some (.int x1), some (.int x2), some (.int x3), some (.int x4), some (.int x5), some (.int x6)], [], mk I J) := mj_blk (μ := mX12_wasSo) (P := pX12_wasSo) (cut := cutX12_wasSo) (cs := csX12_wasSo) dX12_wasSo csX12_wasSo_ok hd 58 13 _ h
def tX12_wasSo : mj_PT := fun as M Φ => match as with
  | [.ref this, .int b_, .int w] => ((this = 91 ∧ mj_isk M) ∧ (∃ b : Nat, b_ = nI b ∧ (∃ p : Nat, ((p ≤ 12 ∧ M.2.2.1 91 40 = nI p ∧ b < 8) ∧ Φ (some (.int (b2i (wasP (nI (pcn M.2.2.1 b p)) (plo M.2.2.1 b p) (phi M.2.2.1 b p) w)))) M))))
  | _ => False
set_option maxHeartbeats 4000000 in
theorem mnX12_wasSo {Ω : mj_Om} {l : Launch} {d : Nat} {Φ : Option Value → mj_M → Prop} (hd : 2 ≤ d) (b : Nat) (w : Int32) (p : Nat) (I : Nat → Nat → Int32) (J : Nat → Nat → Int64) (hp : p ≤ 12 ∧ I 91 40 = nI p ∧ b < 8) (h : Φ (some (.int (b2i (wasP (nI (pcn I b p)) (plo I b p) (phi I b p) w)))) (mk I J)) : mj_Met Ω l false mX12_wasSo d 0 0 [.ref 91, .int (nI b), .int w] (mk I J) Φ := by
  refine inX12_wasSo hd (nI b) w I J ?_
  obtain ⟨hp12, h40, hb⟩ := hp
  have h1 : wasP (nI (pcn I b p)) (plo I b p) (phi I b p) w → Φ (some (.int 1)) (mk I J) := fun q => by rw [b2i_1 q] at h; exact h
  have h0 : ¬ wasP (nI (pcn I b p)) (plo I b p) (phi I b p) w → Φ (some (.int 0)) (mk I J) := fun q => by rw [b2i_0 q] at h; exact h
  refine lp_inv (σ := Unit) (n := p) (G := fun i _ => mj_G Ω l false mX12_wasSo d 0 0 Φ 0 0 13 ([some (.ref 91), some (.int (nI b)), some (.int w), some (.int (plo I b i)), some (.int (phi I b i)), some (.int (nI (pcn I b i))), some (.int (nI i))], [], mk I J)) (fun _ _ => True) (fun i _ hi _ hk => ?_) (fun _ _ => ?_) p 0 () (by omega) trivial
  · refine bX12_wasSo_13 hd (nI b) w (plo I b i) (phi I b i) (nI (pcn I b i)) (nI i) I J ?_
    rw [h40, if_pos (show nI i < nI p by rw [jn_lt (by omega) (by omega)]; exact hi)]
    simp (disch := omega) only [jn_in, jn_cl, gd_dec, jn_succ]
    have hk := hk () trivial
    split
    · rename_i z
      rw [show plo I b (i + 1) = (if plo I b i < I 116 i then I 116 i else plo I b i) by rw [plo, if_pos z], show phi I b (i + 1) = (if I 117 i < phi I b i then I 117 i else phi I b i) by rw [phi, if_pos z], show pcn I b (i + 1) = pcn I b i + 1 from cnt_y (p := fun k => I 115 k = nI b) z] at hk
      exact hk
    · rename_i z
      rw [show plo I b (i + 1) = plo I b i by rw [plo, if_neg z], show phi I b (i + 1) = phi I b i by rw [phi, if_neg z], show pcn I b (i + 1) = pcn I b i from cnt_n (p := fun k => I 115 k = nI b) z] at hk
      exact hk
  · refine bX12_wasSo_13 hd (nI b) w (plo I b p) (phi I b p) (nI (pcn I b p)) (nI p) I J ?_
    rw [h40, if_neg Int32.lt_irrefl]
    by_cases c : 0 < nI (pcn I b p)
    case neg => rw [if_neg c]; exact h0 (fun q => c q.1)
    rw [if_pos c]
    by_cases w2 : w = 2
    · rw [if_pos w2]
      split
      · rename_i z; exact h1 ⟨c, Or.inl ⟨w2, z⟩⟩
      · rename_i z
        refine h0 (fun q => ?_)
        rcases q.2 with v | v
        · exact z v.2
        · exact v.1 w2
    rw [if_neg w2]
    by_cases z : phi I b p < plo I b p
    · rw [if_pos z]
      refine h0 (fun q => ?_)
      rcases q.2 with v | v
      · exact w2 v.1
      · exact v.2.1 z
    rw [if_neg z]
    by_cases w0 : w = 0
    · rw [if_pos w0]
      split
      · rename_i y; exact h1 ⟨c, Or.inr ⟨w2, z, Or.inl ⟨w0, y⟩⟩⟩
      · rename_i y
        refine h0 (fun q => ?_)
        rcases q.2 with v | v
        · exact w2 v.1
        · rcases v.2.2 with v | v
          · exact y v.2
          · exact v.1 w0
    rw [if_neg w0]
    split
    · rename_i y; exact h1 ⟨c, Or.inr ⟨w2, z, Or.inr ⟨w0, y⟩⟩⟩
    · rename_i y
      refine h0 (fun q => ?_)
      rcases q.2 with v | v
      · exact w2 v.1
      · rcases v.2.2 with v | v
        · exact w0 v.1
        · exact y v.2
theorem sdX12_wasSo : mj_Sd mX12_wasSo 2 tX12_wasSo := by
  intro Ω l d hd as M Φ h
  unfold tX12_wasSo at h
  split at h
  · rename_i z_this b_ w
    obtain ⟨⟨rfl, hM⟩, b, rfl, p, hp, h⟩ := h
    rw [mj_isk_of hM]
    exact mnX12_wasSo hd b w p _ _ hp (by
      rw [mj_isk_of hM] at h
      exact h)
  · exact h.elim
def csX12_pointsOf : List (Nat × Nat × Nat × mj_PT) := []
theorem csX12_pointsOf_ok : mj_Cs mX12_pointsOf 1 csX12_pointsOf := mj_Cs0
def cutX12_pointsOf : List (Nat × List Bool) := [(4, [true, true, true, true])]
set_option maxRecDepth 100000 in
set_option maxHeartbeats 4000000 in
theorem inX12_pointsOf {Ω : mj_Om} {l : Launch} {d : Nat} {Φ : Option Value → mj_M → Prop} (hd : 1 ≤ d) (b_ : Int32) (I : Nat → Nat → Int32) (J : Nat → Nat → Int64)
    (h : ((mj_G Ω l false mX12_pointsOf d 0 0 Φ 0 0 4 ([some (.ref 91), some (.int b_), some (.int (0 : Int32)), some (.int (0 : Int32))], [], (mk I J))))) :
    mj_Met Ω l false mX12_pointsOf d 0 0 [.ref 91, .int b_] (mk I J) Φ := mj_entry (by decide) rfl (fun h => (by cases h)) (Nat.le_of_ble_eq_true rfl) (mj_blk (μ := mX12_pointsOf) (P := pX12_pointsOf) (cut := cutX12_pointsOf) (cs := csX12_pointsOf) dX12_pointsOf csX12_pointsOf_ok hd 24 0 _ h)
set_option maxRecDepth 100000 in
set_option maxHeartbeats 4000000 in
theorem bX12_pointsOf_4 {Ω : mj_Om} {l : Launch} {d : Nat} {Φ : Option Value → mj_M → Prop} (hd : 1 ≤ d) (x1 : Int32) (x2 : Int32) (x3 : Int32) (I : Nat → Nat → Int32) (J : Nat → Nat → Int64)
    (h : ((if x3 < (I 91 42) then (mj_gd (mj_inB (((8 : Int32) * x3) + x1) 320) (mj_G Ω l false mX12_pointsOf d 0 0 Φ 0 0 4 ([some (.ref 91), some (.int x1), some (.int (x2 + (I 118 ((((8 : Int32) * x3) + x1)).toNatClampNeg))), some (.int (x3 + (1 : Int32)))], [], (mk I J)))) else (Φ (some (.int x2)) (mk I J))))) :
    mj_G Ω l false mX12_pointsOf d 0 0 Φ 0 0 4 ([some (.ref 91), some (.int x1), some (.int x2), some (.int x3)], [], mk I J) := mj_blk (μ := mX12_pointsOf) (P := pX12_pointsOf) (cut := cutX12_pointsOf) (cs := csX12_pointsOf) dX12_pointsOf csX12_pointsOf_ok hd 24 4 _ h
def tX12_pointsOf : mj_PT := fun as M Φ => match as with
  | [.ref this, .int b_] => ((this = 91 ∧ mj_isk M) ∧ (∃ b : Nat, b_ = nI b ∧ (∃ r : Nat, ((r ≤ 40 ∧ M.2.2.1 91 42 = nI r ∧ b < 8) ∧ Φ (some (.int (psum M.2.2.1 b r))) M))))
  | _ => False
set_option maxHeartbeats 4000000 in
theorem mnX12_pointsOf {Ω : mj_Om} {l : Launch} {d : Nat} {Φ : Option Value → mj_M → Prop} (hd : 1 ≤ d) (b : Nat) (r : Nat) (I : Nat → Nat → Int32) (J : Nat → Nat → Int64) (hp : r ≤ 40 ∧ I 91 42 = nI r ∧ b < 8) (h : Φ (some (.int (psum I b r))) (mk I J)) : mj_Met Ω l false mX12_pointsOf d 0 0 [.ref 91, .int (nI b)] (mk I J) Φ := by
  refine inX12_pointsOf hd (nI b) I J ?_
  obtain ⟨hr, h42, hb⟩ := hp
  refine lp_inv (σ := Unit) (n := r) (G := fun i _ => mj_G Ω l false mX12_pointsOf d 0 0 Φ 0 0 4 ([some (.ref 91), some (.int (nI b)), some (.int (psum I b i)), some (.int (nI i))], [], mk I J)) (fun _ _ => True) (fun i _ hi _ hk => ?_) (fun _ _ => ?_) r 0 () (by omega) trivial
  · refine bX12_pointsOf_4 hd (nI b) (psum I b i) (nI i) I J ?_
    rw [h42, if_pos (show nI i < nI r by rw [jn_lt (by omega) (by omega)]; exact hi), n8_b]
    simp (disch := omega) only [jn_in, jn_cl, gd_dec, jn_succ]
    exact hk () trivial
  · refine bX12_pointsOf_4 hd (nI b) (psum I b r) (nI r) I J ?_
    rw [h42, if_neg Int32.lt_irrefl]
    exact h
theorem sdX12_pointsOf : mj_Sd mX12_pointsOf 1 tX12_pointsOf := by
  intro Ω l d hd as M Φ h
  unfold tX12_pointsOf at h
  split at h
  · rename_i z_this b_
    obtain ⟨⟨rfl, hM⟩, b, rfl, r, hp, h⟩ := h
    rw [mj_isk_of hM]
    exact mnX12_pointsOf hd b r _ _ hp (by
      rw [mj_isk_of hM] at h
      exact h)
  · exact h.elim
def csX12_was : List (Nat × Nat × Nat × mj_PT) := [(214, 1, 3, tX12_in), (428, 0, 3, mj_rcv 12 tX12_wasSo)]
theorem csX12_was_ok : mj_Cs mX12_was 3 csX12_was := (mj_CsS (D' := 1) sdX12_in (Nat.le_of_ble_eq_true rfl) fX12_in sX12_in (by decide +kernel) l12_214 (mj_CsV (D' := 2) (ci := 12) (q := (RX12, TX12, 45)) sdX12_wasSo (Nat.le_of_ble_eq_true rfl) fX12_wasSo rfl rfl iX12_wasSo vX12_wasSo (by decide +kernel) l12_428 mj_Cs0))
def cutX12_was : List (Nat × List Bool) := [(22, [true, true, true, true])]
set_option maxRecDepth 100000 in
set_option maxHeartbeats 4000000 in
theorem inX12_was {Ω : mj_Om} {l : Launch} {d : Nat} {Φ : Option Value → mj_M → Prop} (hd : 3 ≤ d) (w : Int32) (I : Nat → Nat → Int32) (J : Nat → Nat → Int64)
    (h : ((if (I 91 22) = (0 : Int32) then (Φ (some (.int (-1 : Int32))) (mk I J)) else (if w < (0 : Int32) then (Φ (some (.int (-1 : Int32))) (mk I J)) else (if (2 : Int32) < w then (Φ (some (.int (-1 : Int32))) (mk I J)) else (mj_G Ω l false mX12_was d 0 0 Φ 0 0 22 ([some (.ref 91), some (.int w), some (.int (0 : Int32)), some (.int (0 : Int32))], [], (mk I J)))))))) :
    mj_Met Ω l false mX12_was d 0 0 [.ref 91, .int w] (mk I J) Φ := mj_entry (by decide) rfl (fun h => (by cases h)) (Nat.le_of_ble_eq_true rfl) (mj_blk (μ := mX12_was) (P := pX12_was) (cut := cutX12_was) (cs := csX12_was) dX12_was csX12_was_ok hd 36 0 _ h)
set_option maxRecDepth 100000 in
set_option maxHeartbeats 4000000 in
theorem bX12_was_22 {Ω : mj_Om} {l : Launch} {d : Nat} {Φ : Option Value → mj_M → Prop} (hd : 3 ≤ d) (x1 : Int32) (x2 : Int32) (x3 : Int32) (I : Nat → Nat → Int32) (J : Nat → Nat → Int64)
    (h : ((if x3 < (I 91 22) then ((91 = 91 ∧ mj_isk (mk I J)) ∧ (∃ b887 : Nat, x3 = nI b887 ∧ (∃ p888 : Nat, ((p888 ≤ 12 ∧ I 91 40 = nI p888 ∧ b887 < 8) ∧ (if (b2i (wasP (nI (pcn I b887 p888)) (plo I b887 p888) (phi I b887 p888) x1)) = (0 : Int32) then (mj_G Ω l false mX12_was d 0 0 Φ 0 0 22 ([some (.ref 91), some (.int x1), some (.int (x2 ||| (0 : Int32))), some (.int (x3 + (1 : Int32)))], [], (mk I J))) else (mj_G Ω l false mX12_was d 0 0 Φ 0 0 22 ([some (.ref 91), some (.int x1), some (.int (x2 ||| ((1 : Int32) <<< (x3 &&& 31)))), some (.int (x3 + (1 : Int32)))], [], (mk I J)))))))) else (Φ (some (.int x2)) (mk I J))))) :
    mj_G Ω l false mX12_was d 0 0 Φ 0 0 22 ([some (.ref 91), some (.int x1), some (.int x2), some (.int x3)], [], mk I J) := mj_blk (μ := mX12_was) (P := pX12_was) (cut := cutX12_was) (cs := csX12_was) dX12_was csX12_was_ok hd 36 22 _ h
def tX12_was : mj_PT := fun as M Φ => match as with
  | [.ref this, .int w] => ((this = 91 ∧ mj_isk M) ∧ (∃ m : Nat, (∃ R : RF, (∃ p : Nat, ((qM M.2.2.1 m R ∧ p ≤ 12 ∧ M.2.2.1 91 40 = nI p) ∧ (∀ I1 : Nat → Nat → Int32, (fr Scr M.2.2.1 I1) → Φ (some (.int (wasR (nM M.2.2.1) (fun k => wasP (nI (pcn M.2.2.1 k p)) (plo M.2.2.1 k p) (phi M.2.2.1 k p) w) w))) (M.1, M.2.1, I1, M.2.2.2)))))))
  | _ => False
set_option maxHeartbeats 4000000 in
theorem mnX12_was {Ω : mj_Om} {l : Launch} {d : Nat} {Φ : Option Value → mj_M → Prop} (hd : 3 ≤ d) (w : Int32) (m : Nat) (R : RF) (p : Nat) (I : Nat → Nat → Int32) (J : Nat → Nat → Int64) (hp : qM I m R ∧ p ≤ 12 ∧ I 91 40 = nI p) (h : ∀ I1 : Nat → Nat → Int32, (fr Scr I I1) → Φ (some (.int (wasR (nM I) (fun k => wasP (nI (pcn I k p)) (plo I k p) (phi I k p) w) w))) (mk I1 J)) : mj_Met Ω l false mX12_was d 0 0 [.ref 91, .int w] (mk I J) Φ := by
  refine inX12_was hd w I J ?_
  obtain ⟨hp, hx⟩ := hp
  obtain ⟨⟨hc, hn⟩, hR, hFF, h25, h26⟩ := id hp
  have hH : ¬ (0 < nM I ∧ ¬ w < 0 ∧ ¬ 2 < w) → Φ (some (.int (-1))) (mk I J) := fun q => by
    have := h I fr_rf
    unfold wasR at this
    rwa [cif_f q] at this
  rw [hc]
  by_cases q : nI (nM I) = 0
  · rw [if_pos q]; rw [zero_n (by omega)] at q; exact hH (fun w' => by omega)
  rw [if_neg q]
  rw [zero_n (by omega)] at q
  by_cases q1 : w < 0
  · rw [if_pos q1]; exact hH (fun w' => w'.2.1 q1)
  rw [if_neg q1]
  by_cases q2 : 2 < w
  · rw [if_pos q2]; exact hH (fun w' => w'.2.2 q2)
  rw [if_neg q2]
  have h := h I fr_rf
  unfold wasR at h
  rw [cif_t ⟨by omega, q1, q2⟩] at h
  have hF := hFF (by omega)
  refine lp_inv (σ := Int32) (n := nM I) (G := fun i x => mj_G Ω l false mX12_was d 0 0 Φ 0 0 22 ([some (.ref 91), some (.int w), some (.int x), some (.int (nI i))], [], mk I J)) (fun i x => x = whN (fun k => wasP (nI (pcn I k p)) (plo I k p) (phi I k p) w) i) (fun i x hi hI hk => ?_) (fun x hI => ?_) (nM I) 0 0 (by omega) rfl
  · refine bX12_was_22 hd w x (nI i) I J ?_
    rw [hc, if_pos (show nI i < nI (nM I) by rw [jn_lt (by omega) (by omega)]; exact hi)]
    refine ⟨⟨by trivial, mj_isk_mk _ _⟩, i, rfl, p, ⟨hx.1, hx.2, by omega⟩, ?_⟩
    rw [jn_succ, Int32.or_zero]
    split
    · rename_i z; rw [b2i_e0] at z; exact hk _ (by rw [hI, whN, cif_f z])
    · rename_i z; rw [b2i_e0] at z; exact hk _ (by rw [hI, whN, cif_t (Classical.not_not.mp z)])
  · refine bX12_was_22 hd w x (nI (nM I)) I J ?_
    rw [hc, if_neg Int32.lt_irrefl, hI]
    exact h
theorem sdX12_was : mj_Sd mX12_was 3 tX12_was := by
  intro Ω l d hd as M Φ h
  unfold tX12_was at h
  split at h
  · rename_i z_this w
    obtain ⟨⟨rfl, hM⟩, m, R, p, hp, h⟩ := h
    rw [mj_isk_of hM]
    exact mnX12_was hd w m R p _ _ hp (by
      rw [mj_isk_of hM] at h
      exact h)
  · exact h.elim
def csX11_was : List (Nat × Nat × Nat × mj_PT) := [(204, 0, 1, mj_rcv 11 tX11_hasWater), (318, 0, 3, mj_rcv 5 tX5_isSeen)]
theorem csX11_was_ok : mj_Cs mX11_was 2 csX11_was := (mj_CsV (D' := 1) (ci := 11) (q := (RX11, TX11, 18)) sdX11_hasWater (Nat.le_of_ble_eq_true rfl) fX11_hasWater rfl rfl iX11_hasWater vX11_hasWater (by decide +kernel) l11_204 (mj_CsV (D' := 1) (ci := 5) (q := (RX5, TX5, 6)) sdX5_isSeen (Nat.le_of_ble_eq_true rfl) fX5_isSeen rfl rfl iX5_isSeen vX5_isSeen (by decide +kernel) l11_318 mj_Cs0))
def cutX11_was : List (Nat × List Bool) := [(22, [true, true, true, true])]
set_option maxRecDepth 100000 in
set_option maxHeartbeats 4000000 in
theorem inX11_was {Ω : mj_Om} {l : Launch} {d : Nat} {Φ : Option Value → mj_M → Prop} (hd : 2 ≤ d) (w : Int32) (I : Nat → Nat → Int32) (J : Nat → Nat → Int64)
    (h : ((if (0 : Int32) < (I 39 8) then (if w < (0 : Int32) then (Φ (some (.int (-1 : Int32))) (mk I J)) else (if (2 : Int32) < w then (Φ (some (.int (-1 : Int32))) (mk I J)) else (mj_G Ω l false mX11_was d 0 0 Φ 0 0 22 ([some (.ref 0), some (.int w), some (.int (0 : Int32)), some (.int (0 : Int32))], [], (mk I J))))) else (Φ (some (.int (-1 : Int32))) (mk I J))))) :
    mj_Met Ω l false mX11_was d 0 0 [.ref 0, .int w] (mk I J) Φ := mj_entry (by decide) rfl (fun h => (by cases h)) (Nat.le_of_ble_eq_true rfl) (mj_blk (μ := mX11_was) (P := pX11_was) (cut := cutX11_was) (cs := csX11_was) dX11_was csX11_was_ok hd 36 0 _ h)
set_option maxRecDepth 100000 in
set_option maxHeartbeats 4000000 in
theorem bX11_was_22 {Ω : mj_Om} {l : Launch} {d : Nat} {Φ : Option Value → mj_M → Prop} (hd : 2 ≤ d) (x1 : Int32) (x2 : Int32) (x3 : Int32) (I : Nat → Nat → Int32) (J : Nat → Nat → Int64)
    (h : ((if x3 < (I 39 8) then (mj_gd (mj_inB x3 8) (mj_gd (mj_inB x3 8) (if (I 89 (x3).toNatClampNeg) < (I 88 (x3).toNatClampNeg) then (if x1 = (0 : Int32) then (mj_gd (mj_inB x3 8) (if (0 : Int32) < (I 87 (x3).toNatClampNeg) then (mj_G Ω l false mX11_was d 0 0 Φ 0 0 22 ([some (.ref 0), some (.int x1), some (.int x2), some (.int (x3 + (1 : Int32)))], [], (mk I J))) else (mj_G Ω l false mX11_was d 0 0 Φ 0 0 22 ([some (.ref 0), some (.int x1), some (.int x2), some (.int (x3 + (1 : Int32)))], [], (mk I J))))) else (if x1 = (1 : Int32) then (mj_gd (mj_inB x3 8) (if (0 : Int32) < (I 87 (x3).toNatClampNeg) then (mj_G Ω l false mX11_was d 0 0 Φ 0 0 22 ([some (.ref 0), some (.int x1), some (.int x2), some (.int (x3 + (1 : Int32)))], [], (mk I J))) else (mj_G Ω l false mX11_was d 0 0 Φ 0 0 22 ([some (.ref 0), some (.int x1), some (.int x2), some (.int (x3 + (1 : Int32)))], [], (mk I J))))) else (mj_G Ω l false mX11_was d 0 0 Φ 0 0 22 ([some (.ref 0), some (.int x1), some (.int (x2 ||| ((1 : Int32) <<< (x3 &&& 31)))), some (.int (x3 + (1 : Int32)))], [], (mk I J))))) else (if x1 = (0 : Int32) then (mj_gd (mj_inB x3 8) (if (0 : Int32) < (I 87 (x3).toNatClampNeg) then (mj_gd (mj_inB x3 8) (if (I 88 (x3).toNatClampNeg) < (0 : Int32) then (mj_G Ω l false mX11_was d 0 0 Φ 0 0 22 ([some (.ref 0), some (.int x1), some (.int (x2 ||| ((1 : Int32) <<< (x3 &&& 31)))), some (.int (x3 + (1 : Int32)))], [], (mk I J))) else (mj_G Ω l false mX11_was d 0 0 Φ 0 0 22 ([some (.ref 0), some (.int x1), some (.int x2), some (.int (x3 + (1 : Int32)))], [], (mk I J))))) else (mj_G Ω l false mX11_was d 0 0 Φ 0 0 22 ([some (.ref 0), some (.int x1), some (.int x2), some (.int (x3 + (1 : Int32)))], [], (mk I J))))) else (if x1 = (1 : Int32) then (mj_gd (mj_inB x3 8) (if (0 : Int32) < (I 87 (x3).toNatClampNeg) then (mj_gd (mj_inB x3 8) (if (I 89 (x3).toNatClampNeg) < (0 : Int32) then (mj_G Ω l false mX11_was d 0 0 Φ 0 0 22 ([some (.ref 0), some (.int x1), some (.int (x2 ||| ((1 : Int32) <<< (x3 &&& 31)))), some (.int (x3 + (1 : Int32)))], [], (mk I J))) else (mj_G Ω l false mX11_was d 0 0 Φ 0 0 22 ([some (.ref 0), some (.int x1), some (.int x2), some (.int (x3 + (1 : Int32)))], [], (mk I J))))) else (mj_G Ω l false mX11_was d 0 0 Φ 0 0 22 ([some (.ref 0), some (.int x1), some (.int x2), some (.int (x3 + (1 : Int32)))], [], (mk I J))))) else (mj_G Ω l false mX11_was d 0 0 Φ 0 0 22 ([some (.ref 0), some (.int x1), some (.int x2), some (.int (x3 + (1 : Int32)))], [], (mk I J)))))))) else (Φ (some (.int x2)) (mk I J))))) :
    mj_G Ω l false mX11_was d 0 0 Φ 0 0 22 ([some (.ref 0), some (.int x1), some (.int x2), some (.int x3)], [], mk I J) := mj_blk (μ := mX11_was) (P := pX11_was) (cut := cutX11_was) (cs := csX11_was) dX11_was csX11_was_ok hd 36 22 _ h
def tX11_was : mj_PT := fun as M Φ => match as with
  | [.ref this, .int w] => ((this = 0 ∧ mj_isk M) ∧ (∃ m : Nat, (∃ R : RF, ((qC M.2.2.1 m R ∧ ∀ b, b < nF M.2.2.1 39 → ¬ 0 < M.2.2.1 87 b → ¬ M.2.2.1 89 b < M.2.2.1 88 b) ∧ (∀ I1 : Nat → Nat → Int32, (fr Scr M.2.2.1 I1) → Φ (some (.int (wasR (nF M.2.2.1 39) (fun k => wasP (M.2.2.1 87 k) (M.2.2.1 88 k) (M.2.2.1 89 k) w) w))) (M.1, M.2.1, I1, M.2.2.2))))))
  | _ => False
set_option maxHeartbeats 8000000 in
theorem mnX11_was {Ω : mj_Om} {l : Launch} {d : Nat} {Φ : Option Value → mj_M → Prop} (hd : 2 ≤ d) (w : Int32) (m : Nat) (R : RF) (I : Nat → Nat → Int32) (J : Nat → Nat → Int64) (hp : qC I m R ∧ ∀ b, b < nF I 39 → ¬ 0 < I 87 b → ¬ I 89 b < I 88 b) (h : ∀ I1 : Nat → Nat → Int32, (fr Scr I I1) → Φ (some (.int (wasR (nF I 39) (fun k => wasP (I 87 k) (I 88 k) (I 89 k) w) w))) (mk I1 J)) : mj_Met Ω l false mX11_was d 0 0 [.ref 0, .int w] (mk I J) Φ := by
  refine inX11_was hd w I J ?_
  obtain ⟨hp, hx⟩ := hp
  obtain ⟨⟨hc, hn⟩, hR, hFF⟩ := id hp
  have hH : ¬ (0 < nF I 39 ∧ ¬ w < 0 ∧ ¬ 2 < w) → Φ (some (.int (-1))) (mk I J) := fun q => by
    have := h I fr_rf
    unfold wasR at this
    rwa [cif_f q] at this
  rw [hc]
  by_cases q : (0 : Int32) < nI (nF I 39)
  case neg => rw [if_neg q]; exact hH (fun w' => q (by rw [pos_n hn]; exact w'.1))
  rw [if_pos q]
  rw [pos_n hn] at q
  by_cases q1 : w < 0
  · rw [if_pos q1]; exact hH (fun w' => w'.2.1 q1)
  rw [if_neg q1]
  by_cases q2 : 2 < w
  · rw [if_pos q2]; exact hH (fun w' => w'.2.2 q2)
  rw [if_neg q2]
  have h := h I fr_rf
  unfold wasR at h
  rw [cif_t ⟨q, q1, q2⟩] at h
  have hF := hFF q
  refine lp_inv (σ := Int32) (n := nF I 39) (G := fun i x => mj_G Ω l false mX11_was d 0 0 Φ 0 0 22 ([some (.ref 0), some (.int w), some (.int x), some (.int (nI i))], [], mk I J)) (fun i x => x = whN (fun k => wasP (I 87 k) (I 88 k) (I 89 k) w) i) (fun i x hi hI hk => ?_) (fun x hI => ?_) (nF I 39) 0 0 (by omega) rfl
  · refine bX11_was_22 hd w x (nI i) I J ?_
    rw [hc, if_pos (show nI i < nI (nF I 39) by rw [jn_lt (by omega) (by omega)]; exact hi)]
    simp (disch := omega) only [jn_in, jn_cl, gd_dec, jn_succ]
    have k1 := fun (p : wasP (I 87 i) (I 88 i) (I 89 i) w) => hk (x ||| (1 <<< (nI i &&& 31))) (by rw [hI, whN, cif_t p])
    have k0 := fun (p : ¬ wasP (I 87 i) (I 88 i) (I 89 i) w) => hk x (by rw [hI, whN, cif_f p])
    have hxi := hx i hi
    by_cases z : I 89 i < I 88 i
    · rw [if_pos z]
      have c : 0 < I 87 i := Classical.byContradiction (fun y => hxi y z)
      rcases w012 q1 q2 with w0 | w0 | w0
      · rw [if_pos w0, if_pos c]
        refine k0 (fun q => ?_)
        rcases q.2 with v | v
        · rw [w0] at v; exact absurd v.1 (by decide)
        · exact v.2.1 z
      · rw [if_neg (by rw [w0]; decide), if_pos w0, if_pos c]
        refine k0 (fun q => ?_)
        rcases q.2 with v | v
        · rw [w0] at v; exact absurd v.1 (by decide)
        · exact v.2.1 z
      · rw [if_neg (by rw [w0]; decide), if_neg (by rw [w0]; decide)]
        exact k1 ⟨c, Or.inl ⟨w0, z⟩⟩
    · rw [if_neg z]
      rcases w012 q1 q2 with w0 | w0 | w0
      · rw [if_pos w0]
        split
        · rename_i c
          split
          · rename_i y; exact k1 ⟨c, Or.inr ⟨by rw [w0]; decide, z, Or.inl ⟨w0, y⟩⟩⟩
          · rename_i y
            refine k0 (fun q => ?_)
            rcases q.2 with v | v
            · exact z v.2
            · rcases v.2.2 with v | v
              · exact y v.2
              · exact v.1 w0
        · rename_i c; exact k0 (fun q => c q.1)
      · have w1 : ¬ w = 0 := by rw [w0]; decide
        rw [if_neg w1, if_pos w0]
        split
        · rename_i c
          split
          · rename_i y; exact k1 ⟨c, Or.inr ⟨by rw [w0]; decide, z, Or.inr ⟨w1, y⟩⟩⟩
          · rename_i y
            refine k0 (fun q => ?_)
            rcases q.2 with v | v
            · exact z v.2
            · rcases v.2.2 with v | v
              · exact w1 v.1
              · exact y v.2
        · rename_i c; exact k0 (fun q => c q.1)
      · rw [if_neg (by rw [w0]; decide), if_neg (by rw [w0]; decide)]
        refine k0 (fun q => ?_)
        rcases q.2 with v | v
        · exact z v.2
        · exact v.1 w0
  · refine bX11_was_22 hd w x (nI (nF I 39)) I J ?_
    rw [hc, if_neg Int32.lt_irrefl, hI]
    exact h
theorem sdX11_was : mj_Sd mX11_was 2 tX11_was := by
  intro Ω l d hd as M Φ h
  unfold tX11_was at h
  split at h
  · rename_i z_this w
    obtain ⟨⟨rfl, hM⟩, m, R, hp, h⟩ := h
    rw [mj_isk_of hM]
    exact mnX11_was hd w m R _ _ hp (by
      rw [mj_isk_of hM] at h
      exact h)
  · exact h.elim
def csX11_pointsS : List (Nat × Nat × Nat × mj_PT) := [(160, 0, 2, mj_rcv 11 tX11_isBoat)]
theorem csX11_pointsS_ok : mj_Cs mX11_points 2 csX11_pointsS := (mj_CsV (D' := 1) (ci := 11) (q := (RX11, TX11, 18)) sdX11_isBoat (Nat.le_of_ble_eq_true rfl) fX11_isBoat rfl rfl iX11_isBoat vX11_isBoat (by decide +kernel) l11_160 mj_Cs0)
def cutX11_pointsS : List (Nat × List Bool) := []
set_option maxRecDepth 100000 in
set_option maxHeartbeats 4000000 in
theorem inX11_pointsS {Ω : mj_Om} {l : Launch} {d : Nat} {Φ : Option Value → mj_M → Prop} (hd : 2 ≤ d) (b : Int32) (I : Nat → Nat → Int32) (J : Nat → Nat → Int64)
    (h : ((if b < (0 : Int32) then (Φ (some (.int (-1 : Int32))) (mk I J)) else (if b < (I 39 8) then (mj_gd (mj_inB b 8) (Φ (some (.int (I 90 (b).toNatClampNeg))) (mk I J))) else (Φ (some (.int (-1 : Int32))) (mk I J)))))) :
    mj_Met Ω l false mX11_points d 0 0 [.ref 0, .int b] (mk I J) Φ := mj_entry (by decide) rfl (fun h => (by cases h)) (Nat.le_of_ble_eq_true rfl) (mj_blk (μ := mX11_points) (P := pX11_points) (cut := cutX11_pointsS) (cs := csX11_pointsS) dX11_points csX11_pointsS_ok hd 13 0 _ h)
def tX11_pointsS : mj_PT := fun as M Φ => match as with
  | [.ref this, .int b] => ((this = 0 ∧ mj_isk M) ∧ (∃ m : Nat, (∃ R : RF, ((qC M.2.2.1 m R) ∧ (∀ I1 : Nat → Nat → Int32, (fr Scr M.2.2.1 I1) → Φ (some (.int (pointsR (nF M.2.2.1 39) (fun b => M.2.2.1 90 b) b))) (M.1, M.2.1, I1, M.2.2.2))))))
  | _ => False
set_option maxHeartbeats 4000000 in
theorem mnX11_pointsS {Ω : mj_Om} {l : Launch} {d : Nat} {Φ : Option Value → mj_M → Prop} (hd : 2 ≤ d) (b : Int32) (m : Nat) (R : RF) (I : Nat → Nat → Int32) (J : Nat → Nat → Int64) (hp : qC I m R) (h : ∀ I1 : Nat → Nat → Int32, (fr Scr I I1) → Φ (some (.int (pointsR (nF I 39) (fun b => I 90 b) b))) (mk I1 J)) : mj_Met Ω l false mX11_points d 0 0 [.ref 0, .int b] (mk I J) Φ := by
  refine inX11_pointsS hd b I J ?_
  obtain ⟨⟨hc, hn⟩, hR, hFF⟩ := id hp
  have hH : ¬ (okBN (nF I 39) b) → Φ (some (.int (-1))) (mk I J) := fun q => by
    have := h I fr_rf
    unfold pointsR at this
    rwa [cif_f q] at this
  by_cases hb0 : b < 0
  · rw [if_pos hb0]; exact hH (fun w => absurd hb0 (Int32.not_lt.mpr w.1))
  rw [if_neg hb0, hc]
  by_cases hb1 : b < nI (nF I 39)
  case neg => rw [if_neg hb1]; exact hH (fun w => hb1 w.2)
  rw [if_pos hb1]
  obtain ⟨k, hk, rfl⟩ := okB_of hb0 hb1 hn
  have hF := hFF (by omega)
  have hok := okBN_n hk hn
  have h := h I fr_rf
  unfold pointsR at h
  rw [cif_t hok, jn_cl (by omega)] at h
  simp (disch := omega) only [jn_in, jn_cl, gd_dec]
  exact h
theorem sdX11_pointsS : mj_Sd mX11_points 2 tX11_pointsS := by
  intro Ω l d hd as M Φ h
  unfold tX11_pointsS at h
  split at h
  · rename_i z_this b
    obtain ⟨⟨rfl, hM⟩, m, R, hp, h⟩ := h
    rw [mj_isk_of hM]
    exact mnX11_pointsS hd b m R _ _ hp (by
      rw [mj_isk_of hM] at h
      exact h)
  · exact h.elim
def csX12_points : List (Nat × Nat × Nat × mj_PT) := [(306, 0, 2, mj_rcv 12 tX12_isBoat), (434, 0, 2, mj_rcv 12 tX12_pointsOf)]
theorem csX12_points_ok : mj_Cs mX12_points 3 csX12_points := (mj_CsV (D' := 2) (ci := 12) (q := (RX12, TX12, 45)) sdX12_isBoat (Nat.le_of_ble_eq_true rfl) fX12_isBoat rfl rfl iX12_isBoat vX12_isBoat (by decide +kernel) l12_306 (mj_CsV (D' := 1) (ci := 12) (q := (RX12, TX12, 45)) sdX12_pointsOf (Nat.le_of_ble_eq_true rfl) fX12_pointsOf rfl rfl iX12_pointsOf vX12_pointsOf (by decide +kernel) l12_434 mj_Cs0))
def cutX12_points : List (Nat × List Bool) := []
set_option maxRecDepth 100000 in
set_option maxHeartbeats 4000000 in
theorem inX12_points {Ω : mj_Om} {l : Launch} {d : Nat} {Φ : Option Value → mj_M → Prop} (hd : 3 ≤ d) (b : Int32) (I : Nat → Nat → Int32) (J : Nat → Nat → Int64)
    (h : ((if b < (0 : Int32) then (Φ (some (.int (-1 : Int32))) (mk I J)) else (if ((I 91 22) - (1 : Int32)) < b then (Φ (some (.int (-1 : Int32))) (mk I J)) else ((91 = 91 ∧ mj_isk (mk I J)) ∧ (∃ b895 : Nat, b = nI b895 ∧ (∃ r896 : Nat, ((r896 ≤ 40 ∧ I 91 42 = nI r896 ∧ b895 < 8) ∧ (Φ (some (.int (psum I b895 r896))) (mk I J)))))))))) :
    mj_Met Ω l false mX12_points d 0 0 [.ref 91, .int b] (mk I J) Φ := mj_entry (by decide) rfl (fun h => (by cases h)) (Nat.le_of_ble_eq_true rfl) (mj_blk (μ := mX12_points) (P := pX12_points) (cut := cutX12_points) (cs := csX12_points) dX12_points csX12_points_ok hd 11 0 _ h)
def tX12_points : mj_PT := fun as M Φ => match as with
  | [.ref this, .int b] => ((this = 91 ∧ mj_isk M) ∧ (∃ m : Nat, (∃ R : RF, (∃ r : Nat, ((qM M.2.2.1 m R ∧ r ≤ 40 ∧ M.2.2.1 91 42 = nI r) ∧ (∀ I1 : Nat → Nat → Int32, (fr Scr M.2.2.1 I1) → Φ (some (.int (pointsR (nM M.2.2.1) (fun b => psum M.2.2.1 b r) b))) (M.1, M.2.1, I1, M.2.2.2)))))))
  | _ => False
set_option maxHeartbeats 4000000 in
theorem mnX12_points {Ω : mj_Om} {l : Launch} {d : Nat} {Φ : Option Value → mj_M → Prop} (hd : 3 ≤ d) (b : Int32) (m : Nat) (R : RF) (r : Nat) (I : Nat → Nat → Int32) (J : Nat → Nat → Int64) (hp : qM I m R ∧ r ≤ 40 ∧ I 91 42 = nI r) (h : ∀ I1 : Nat → Nat → Int32, (fr Scr I I1) → Φ (some (.int (pointsR (nM I) (fun b => psum I b r) b))) (mk I1 J)) : mj_Met Ω l false mX12_points d 0 0 [.ref 91, .int b] (mk I J) Φ := by
  refine inX12_points hd b I J ?_
  obtain ⟨hp, hx⟩ := hp
  obtain ⟨⟨hc, hn⟩, hR, hFF, h25, h26⟩ := id hp
  have hH : ¬ (okBN (nM I) b) → Φ (some (.int (-1))) (mk I J) := fun q => by
    have := h I fr_rf
    unfold pointsR at this
    rwa [cif_f q] at this
  by_cases hb0 : b < 0
  · rw [if_pos hb0]; exact hH (fun w => ((in_n hn).mpr w).1 hb0)
  rw [if_neg hb0, hc]
  by_cases hb1 : nI (nM I) - 1 < b
  · rw [if_pos hb1]; exact hH (fun w => ((in_n hn).mpr w).2 hb1)
  rw [if_neg hb1]
  have hok := (in_n hn).mp ⟨hb0, hb1⟩
  obtain ⟨k, hk, rfl⟩ := okB_of hb0 hok.2 hn
  have hF := hFF (by omega)
  have h := h I fr_rf
  unfold pointsR at h
  rw [cif_t hok, jn_cl (by omega)] at h
  exact ⟨⟨by trivial, mj_isk_mk _ _⟩, k, rfl, r, ⟨hx.1, hx.2, by omega⟩, h⟩
theorem sdX12_points : mj_Sd mX12_points 3 tX12_points := by
  intro Ω l d hd as M Φ h
  unfold tX12_points at h
  split at h
  · rename_i z_this b
    obtain ⟨⟨rfl, hM⟩, m, R, r, hp, h⟩ := h
    rw [mj_isk_of hM]
    exact mnX12_points hd b m R r _ _ hp (by
      rw [mj_isk_of hM] at h
      exact h)
  · exact h.elim
def csX11_champion : List (Nat × Nat × Nat × mj_PT) := [(204, 0, 1, mj_rcv 11 tX11_hasWater)]
theorem csX11_champion_ok : mj_Cs mX11_champion 2 csX11_champion := (mj_CsV (D' := 1) (ci := 11) (q := (RX11, TX11, 18)) sdX11_hasWater (Nat.le_of_ble_eq_true rfl) fX11_hasWater rfl rfl iX11_hasWater vX11_hasWater (by decide +kernel) l11_204 mj_Cs0)
def cutX11_champion : List (Nat × List Bool) := [(23, [true, true, true])]
set_option maxRecDepth 100000 in
set_option maxHeartbeats 4000000 in
theorem inX11_champion {Ω : mj_Om} {l : Launch} {d : Nat} {Φ : Option Value → mj_M → Prop} (hd : 2 ≤ d) (I : Nat → Nat → Int32) (J : Nat → Nat → Int64)
    (h : ((if (0 : Int32) < (I 39 8) then (if (I 86 5) = (0 : Int32) then (Φ (some (.int (-1 : Int32))) (mk I J)) else (mj_G Ω l false mX11_champion d 0 0 Φ 0 0 23 ([some (.ref 0), some (.int (0 : Int32)), some (.int (1 : Int32))], [], (mk I J)))) else (Φ (some (.int (-1 : Int32))) (mk I J))))) :
    mj_Met Ω l false mX11_champion d 0 0 [.ref 0] (mk I J) Φ := mj_entry (by decide) rfl (fun h => (by cases h)) (Nat.le_of_ble_eq_true rfl) (mj_blk (μ := mX11_champion) (P := pX11_champion) (cut := cutX11_champion) (cs := csX11_champion) dX11_champion csX11_champion_ok hd 36 0 _ h)
set_option maxRecDepth 100000 in
set_option maxHeartbeats 4000000 in
theorem bX11_champion_23 {Ω : mj_Om} {l : Launch} {d : Nat} {Φ : Option Value → mj_M → Prop} (hd : 2 ≤ d) (x1 : Int32) (x2 : Int32) (I : Nat → Nat → Int32) (J : Nat → Nat → Int64)
    (h : ((if x2 < (I 39 8) then (mj_gd (mj_inB x2 8) (mj_gd (mj_inB x1 8) (if (I 90 (x2).toNatClampNeg) < (I 90 (x1).toNatClampNeg) then (mj_G Ω l false mX11_champion d 0 0 Φ 0 0 23 ([some (.ref 0), some (.int x2), some (.int (x2 + (1 : Int32)))], [], (mk I J))) else (mj_G Ω l false mX11_champion d 0 0 Φ 0 0 23 ([some (.ref 0), some (.int x1), some (.int (x2 + (1 : Int32)))], [], (mk I J)))))) else (Φ (some (.int x1)) (mk I J))))) :
    mj_G Ω l false mX11_champion d 0 0 Φ 0 0 23 ([some (.ref 0), some (.int x1), some (.int x2)], [], mk I J) := mj_blk (μ := mX11_champion) (P := pX11_champion) (cut := cutX11_champion) (cs := csX11_champion) dX11_champion csX11_champion_ok hd 36 23 _ h
def tX11_champion : mj_PT := fun as M Φ => match as with
  | [.ref this] => ((this = 0 ∧ mj_isk M) ∧ (∃ m : Nat, (∃ R : RF, (∃ r : Nat, ((qC M.2.2.1 m R ∧ r ≤ 40 ∧ M.2.2.1 86 5 = nI r) ∧ (∀ I1 : Nat → Nat → Int32, (fr Scr M.2.2.1 I1) → Φ (some (.int (champR r (nF M.2.2.1 39) (fun b => M.2.2.1 90 b)))) (M.1, M.2.1, I1, M.2.2.2)))))))
  | _ => False
set_option maxHeartbeats 4000000 in
theorem mnX11_champion {Ω : mj_Om} {l : Launch} {d : Nat} {Φ : Option Value → mj_M → Prop} (hd : 2 ≤ d) (m : Nat) (R : RF) (r : Nat) (I : Nat → Nat → Int32) (J : Nat → Nat → Int64) (hp : qC I m R ∧ r ≤ 40 ∧ I 86 5 = nI r) (h : ∀ I1 : Nat → Nat → Int32, (fr Scr I I1) → Φ (some (.int (champR r (nF I 39) (fun b => I 90 b)))) (mk I1 J)) : mj_Met Ω l false mX11_champion d 0 0 [.ref 0] (mk I J) Φ := by
  refine inX11_champion hd I J ?_
  obtain ⟨hp, hr, h5⟩ := hp
  obtain ⟨⟨hc, hn⟩, hR, hFF⟩ := id hp
  have h := h I fr_rf
  unfold champR at h
  rw [hc, h5]
  by_cases q : (0 : Int32) < nI (nF I 39)
  case neg =>
    rw [if_neg q]
    rw [pos_n hn] at q
    rw [cif_f (fun w => q w.1)] at h; exact h
  rw [if_pos q]
  rw [pos_n hn] at q
  by_cases z : nI r = 0
  · rw [if_pos z]
    rw [zero_n (by omega)] at z
    rw [cif_f (fun w => w.2 z)] at h; exact h
  rw [if_neg z]
  rw [zero_n (by omega)] at z
  rw [cif_t ⟨q, z⟩] at h
  refine lp_inv (σ := Unit) (n := nF I 39) (G := fun i _ => mj_G Ω l false mX11_champion d 0 0 Φ 0 0 23 ([some (.ref 0), some (.int (nI (amn (fun b => I 90 b) i))), some (.int (nI i))], [], mk I J)) (fun i _ => 0 < i) (fun i _ hi h0 hk => ?_) (fun _ _ => ?_) (nF I 39 - 1) 1 () (by omega) Nat.zero_lt_one
  · refine bX11_champion_23 hd (nI (amn (fun b => I 90 b) i)) (nI i) I J ?_
    have ab := amn_b (f := fun b => I 90 b) i h0
    have hk := hk () (by omega)
    rw [amn_s h0] at hk
    rw [hc, if_pos (show nI i < nI (nF I 39) by rw [jn_lt (by omega) (by omega)]; exact hi)]
    simp (disch := omega) only [jn_in, jn_cl, gd_dec, jn_succ]
    split
    · rename_i y; rw [if_pos y] at hk; exact hk
    · rename_i y; rw [if_neg y] at hk; exact hk
  · refine bX11_champion_23 hd (nI (amn (fun b => I 90 b) (nF I 39))) (nI (nF I 39)) I J ?_
    rw [hc, if_neg Int32.lt_irrefl]
    exact h
theorem sdX11_champion : mj_Sd mX11_champion 2 tX11_champion := by
  intro Ω l d hd as M Φ h
  unfold tX11_champion at h
  split at h
  · rename_i z_this
    obtain ⟨⟨rfl, hM⟩, m, R, r, hp, h⟩ := h
    rw [mj_isk_of hM]
    exact mnX11_champion hd m R r _ _ hp (by
      rw [mj_isk_of hM] at h
      exact h)
  · exact h.elim
def csX12_champion : List (Nat × Nat × Nat × mj_PT) := [(434, 0, 2, mj_rcv 12 tX12_pointsOf)]
theorem csX12_champion_ok : mj_Cs mX12_champion 2 csX12_champion := (mj_CsV (D' := 1) (ci := 12) (q := (RX12, TX12, 45)) sdX12_pointsOf (Nat.le_of_ble_eq_true rfl) fX12_pointsOf rfl rfl iX12_pointsOf vX12_pointsOf (by decide +kernel) l12_434 mj_Cs0)
def cutX12_champion : List (Nat × List Bool) := [(13, [true, true, true])]
set_option maxRecDepth 100000 in
set_option maxHeartbeats 4000000 in
theorem inX12_champion {Ω : mj_Om} {l : Launch} {d : Nat} {Φ : Option Value → mj_M → Prop} (hd : 2 ≤ d) (I : Nat → Nat → Int32) (J : Nat → Nat → Int64)
    (h : ((if (I 91 42) = (0 : Int32) then (Φ (some (.int (-1 : Int32))) (mk I J)) else (mj_G Ω l false mX12_champion d 0 0 Φ 0 0 13 ([some (.ref 91), some (.int (0 : Int32)), some (.int (1 : Int32))], [], (mk I J)))))) :
    mj_Met Ω l false mX12_champion d 0 0 [.ref 91] (mk I J) Φ := mj_entry (by decide) rfl (fun h => (by cases h)) (Nat.le_of_ble_eq_true rfl) (mj_blk (μ := mX12_champion) (P := pX12_champion) (cut := cutX12_champion) (cs := csX12_champion) dX12_champion csX12_champion_ok hd 29 0 _ h)
set_option maxRecDepth 100000 in
set_option maxHeartbeats 4000000 in
theorem bX12_champion_13 {Ω : mj_Om} {l : Launch} {d : Nat} {Φ : Option Value → mj_M → Prop} (hd : 2 ≤ d) (x1 : Int32) (x2 : Int32) (I : Nat → Nat → Int32) (J : Nat → Nat → Int64)
    (h : ((if x2 < (I 91 22) then ((91 = 91 ∧ mj_isk (mk I J)) ∧ (∃ b907 : Nat, x2 = nI b907 ∧ (∃ r908 : Nat, ((r908 ≤ 40 ∧ I 91 42 = nI r908 ∧ b907 < 8) ∧ ((91 = 91 ∧ mj_isk (mk I J)) ∧ (∃ b911 : Nat, x1 = nI b911 ∧ (∃ r912 : Nat, ((r912 ≤ 40 ∧ I 91 42 = nI r912 ∧ b911 < 8) ∧ (if (psum I b907 r908) < (psum I b911 r912) then (mj_G Ω l false mX12_champion d 0 0 Φ 0 0 13 ([some (.ref 91), some (.int x2), some (.int (x2 + (1 : Int32)))], [], (mk I J))) else (mj_G Ω l false mX12_champion d 0 0 Φ 0 0 13 ([some (.ref 91), some (.int x1), some (.int (x2 + (1 : Int32)))], [], (mk I J)))))))))))) else (Φ (some (.int x1)) (mk I J))))) :
    mj_G Ω l false mX12_champion d 0 0 Φ 0 0 13 ([some (.ref 91), some (.int x1), some (.int x2)], [], mk I J) := mj_blk (μ := mX12_champion) (P := pX12_champion) (cut := cutX12_champion) (cs := csX12_champion) dX12_champion csX12_champion_ok hd 29 13 _ h
def tX12_champion : mj_PT := fun as M Φ => match as with
  | [.ref this] => ((this = 91 ∧ mj_isk M) ∧ (∃ m : Nat, (∃ R : RF, (∃ r : Nat, ((qM M.2.2.1 m R ∧ r ≤ 40 ∧ M.2.2.1 91 42 = nI r ∧ (0 < r → 0 < nM M.2.2.1)) ∧ (∀ I1 : Nat → Nat → Int32, (fr Scr M.2.2.1 I1) → Φ (some (.int (champR r (nM M.2.2.1) (fun b => psum M.2.2.1 b r)))) (M.1, M.2.1, I1, M.2.2.2)))))))
  | _ => False
set_option maxHeartbeats 4000000 in
theorem mnX12_champion {Ω : mj_Om} {l : Launch} {d : Nat} {Φ : Option Value → mj_M → Prop} (hd : 2 ≤ d) (m : Nat) (R : RF) (r : Nat) (I : Nat → Nat → Int32) (J : Nat → Nat → Int64) (hp : qM I m R ∧ r ≤ 40 ∧ I 91 42 = nI r ∧ (0 < r → 0 < nM I)) (h : ∀ I1 : Nat → Nat → Int32, (fr Scr I I1) → Φ (some (.int (champR r (nM I) (fun b => psum I b r)))) (mk I1 J)) : mj_Met Ω l false mX12_champion d 0 0 [.ref 91] (mk I J) Φ := by
  refine inX12_champion hd I J ?_
  obtain ⟨hp, hr, h42, hrn⟩ := hp
  obtain ⟨⟨hc, hn⟩, hR, hFF, h25, h26⟩ := id hp
  have h := h I fr_rf
  unfold champR at h
  rw [h42]
  by_cases z : nI r = 0
  · rw [if_pos z]
    rw [zero_n (by omega)] at z
    rw [cif_f (fun w => w.2 z)] at h; exact h
  rw [if_neg z]
  rw [zero_n (by omega)] at z
  have q := hrn (by omega)
  rw [cif_t ⟨q, z⟩] at h
  refine lp_inv (σ := Unit) (n := nM I) (G := fun i _ => mj_G Ω l false mX12_champion d 0 0 Φ 0 0 13 ([some (.ref 91), some (.int (nI (amn (fun b => psum I b r) i))), some (.int (nI i))], [], mk I J)) (fun i _ => 0 < i) (fun i _ hi h0 hk => ?_) (fun _ _ => ?_) (nM I - 1) 1 () (by omega) Nat.zero_lt_one
  · refine bX12_champion_13 hd (nI (amn (fun b => psum I b r) i)) (nI i) I J ?_
    have ab := amn_b (f := fun b => psum I b r) i h0
    have hk := hk () (by omega)
    rw [amn_s h0] at hk
    rw [hc, if_pos (show nI i < nI (nM I) by rw [jn_lt (by omega) (by omega)]; exact hi)]
    refine ⟨⟨by trivial, mj_isk_mk _ _⟩, i, rfl, r, ⟨hr, h42, by omega⟩, ⟨by trivial, mj_isk_mk _ _⟩, amn (fun b => psum I b r) i, rfl, r, ⟨hr, h42, by omega⟩, ?_⟩
    rw [jn_succ]
    split
    · rename_i y; rw [if_pos y] at hk; exact hk
    · rename_i y; rw [if_neg y] at hk; exact hk
  · refine bX12_champion_13 hd (nI (amn (fun b => psum I b r) (nM I))) (nI (nM I)) I J ?_
    rw [hc, if_neg Int32.lt_irrefl]
    exact h
theorem sdX12_champion : mj_Sd mX12_champion 2 tX12_champion := by
  intro Ω l d hd as M Φ h
  unfold tX12_champion at h
  split at h
  · rename_i z_this
    obtain ⟨⟨rfl, hM⟩, m, R, r, hp, h⟩ := h
    rw [mj_isk_of hM]
    exact mnX12_champion hd m R r _ _ hp (by
      rw [mj_isk_of hM] at h
      exact h)
  · exact h.elim
