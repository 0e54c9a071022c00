/-! ===== a rule added by the class (by program, wip/whole/p84.py) ===== -/
theorem rl_ok {t : Nat} {τ : Nat → Int32} : ∀ (f q : Nat) (ks ls : List (List Int32 × List Int32)), t + 1 ≤ q + f → q ≤ t → (flatK 0 ks).length ≤ q → (∀ c ∈ ks, clOk c) → rlP t τ f q ks = .ok ls → (flatK 0 ls).length ≤ t ∧ ∀ c ∈ ls, clOk c := by
  intro f
  induction f with
  | zero => intro q ks ls hf hq; omega
  | succ f ih =>
    intro q ks ls hf hq hl hk he
    rw [rlP] at he
    cases hs : clP t τ q with
    | error e => rw [hs] at he; cases he
    | ok r =>
      rw [hs] at he
      dsimp only at he
      obtain ⟨p1, p2, p3, p4⟩ := (cl_ok hq).2 r hs
      have p5 := p4 (flatK 0 ks).length
      have k2 := skp_ge (t := t) (τ := τ) (p := r.1)
      have len : (flatK 0 (ks ++ [r.2])).length ≤ r.1 := by rw [flatK_app, List.length_append, Nat.zero_add]; omega
      have mem : ∀ c ∈ ks ++ [r.2], clOk c := fun c hc => by
        rcases List.mem_append.mp hc with q1 | q1
        · exact hk c q1
        · rw [List.mem_singleton.mp q1]; exact p3
      by_cases s1 : nsg t τ r.1 = 59
      · rw [if_pos s1] at he
        exact ih _ _ ls (by omega) (nsg_p s1 (by decide)) (by omega) mem he
      · rw [if_neg s1] at he
        by_cases s2 : nsg t τ r.1 = -1
        · rw [if_pos s2] at he; cases he; exact ⟨by omega, mem⟩
        · rw [if_neg s2] at he; cases he
theorem ru_ok {t : Nat} {τ : Nat → Int32} {ks : List (List Int32 × List Int32)} (h : ruP t τ = .ok ks) : (flatK 0 ks).length ≤ t ∧ ∀ c ∈ ks, clOk c := rl_ok (t + 1) 0 [] ks (by omega) (by omega) (by show 0 ≤ 0; omega) (fun c hc => absurd hc List.not_mem_nil) h
theorem ui_id {I : Nat → Nat → Int32} {c k : Nat} {x : Int32} (h : I c k = x) : mj_ui I c k x = I := by
  funext a b
  unfold mj_ui
  by_cases q : a = c
  · rw [if_pos q]
    by_cases q2 : b = k
    · rw [if_pos q2, q, q2, h]
    · rw [if_neg q2]
  · rw [if_neg q]
theorem cp_gd {s n : Nat} {K : Prop} (h : s ≤ n) (hn : n < 2147483648) (hK : K) : mj_gd (mj_cpB 0 0 (nI s) n n) K := gd_pos (by
  unfold mj_cpB
  have e := jn_cl (a := s) (by omega)
  have e0 : (0 : Int32) ≤ nI s := by rw [show (0 : Int32) = nI 0 from rfl, jn_le (by omega) (by omega)]; omega
  simp [e, e0, h]) hK
def csX6_add0 : List (Nat × Nat × Nat × mj_PT) := [(29, 1, 5, mj_ptcp)]
theorem csX6_add0_ok : mj_Cs mX6_add 2 csX6_add0 := (mj_CsCp (Nat.le_of_ble_eq_true rfl) (mj_gw_in (by decide +kernel)) mj_Cs0)
def cutX6_add0 : List (Nat × List Bool) := []
set_option maxRecDepth 100000 in
set_option maxHeartbeats 4000000 in
theorem inX6_add0 {Ω : mj_Om} {l : Launch} {d : Nat} {Φ : Option Value → mj_M → Prop} (hd : 2 ≤ d) (s_ : Int32) (I : Nat → Nat → Int32) (J : Nat → Nat → Int64)
    (h : ((if (nI 0) < (4 : Int32) then (if (240 : Int32) < s_ then (Φ (some (.int (-1 : Int32))) (mk (mj_ui I 3 3 (nI 0)) J)) else (if (240 : Int32) < s_ then (Φ (some (.int (-1 : Int32))) (mk (mj_ui I 3 3 (nI 0)) J)) else (mj_gd (mj_inB (nI 0) 4) (mj_gd (mj_cpB (0 : Int32) (0 : Int32) s_ 240 240) (mj_gd (mj_inB (nI 0) 4) (Φ (some (.int (((nI 0) + (1 : Int32)) - (1 : Int32)))) (mk (mj_ui (mj_ui (mj_uc (mj_ui I 3 3 (nI 0)) 5 (va_cpy ((mj_ui I 3 3 (nI 0)) 25) ((mj_ui I 3 3 (nI 0)) 5) 0 0 (s_).toNatClampNeg)) 9 ((nI 0)).toNatClampNeg s_) 3 3 ((nI 0) + (1 : Int32))) J))))))) else (Φ (some (.int (-1 : Int32))) (mk (mj_ui I 3 3 (nI 0)) J))))) :
    mj_Met Ω l false mX6_add d 0 0 [.ref 3, .ref 25, .int s_] (mk (mj_ui I 3 3 (nI 0)) J) Φ := mj_entry (by decide) rfl (fun h => (by cases h)) (Nat.le_of_ble_eq_true rfl) (mj_blk (μ := mX6_add) (P := pX6_add) (cut := cutX6_add0) (cs := csX6_add0) dX6_add csX6_add0_ok hd 41 0 _ h)
def tX6_add0 : mj_PT := fun as M Φ => match as with
  | [.ref this, .ref c_, .int s_] => ((this = 3 ∧ c_ = 25 ∧ mj_isk M) ∧ (∃ s : Nat, s_ = nI s ∧ ((M.2.2.1 3 3 = nI 0 ∧ s ≤ 240) ∧ (∀ I1 : Nat → Nat → Int32, (I1 3 3 = nI (0 + 1) ∧ I1 9 0 = nI s ∧ (∀ j, j < s → I1 (5 + 0) j = M.2.2.1 25 j) ∧ fr (fun c j => (c = 3 ∧ j = 3) ∨ (c = 9 ∧ j = 0) ∨ c = 5 + 0) M.2.2.1 I1) → Φ (some (.int (nI 0))) (M.1, M.2.1, I1, M.2.2.2)))))
  | _ => False
set_option maxHeartbeats 4000000 in
theorem mnX6_add0 {Ω : mj_Om} {l : Launch} {d : Nat} {Φ : Option Value → mj_M → Prop} (hd : 2 ≤ d) (s : Nat) (I : Nat → Nat → Int32) (J : Nat → Nat → Int64) (hp : I 3 3 = nI 0 ∧ s ≤ 240) (h : ∀ I1 : Nat → Nat → Int32, (I1 3 3 = nI (0 + 1) ∧ I1 9 0 = nI s ∧ (∀ j, j < s → I1 (5 + 0) j = I 25 j) ∧ fr (fun c j => (c = 3 ∧ j = 3) ∨ (c = 9 ∧ j = 0) ∨ c = 5 + 0) I I1) → Φ (some (.int (nI 0))) (mk I1 J)) : mj_Met Ω l false mX6_add d 0 0 [.ref 3, .ref 25, .int (nI s)] (mk I J) Φ := by
  have e0 : mj_ui I 3 3 (nI 0) = I := ui_id hp.1
  suffices key : mj_Met Ω l false mX6_add d 0 0 [.ref 3, .ref 25, .int (nI s)] (mk (mj_ui I 3 3 (nI 0)) J) Φ by rwa [e0] at key
  refine inX6_add0 hd (nI s) I J ?_
  obtain ⟨h33, hs⟩ := hp
  rw [if_pos (by decide)]
  rw [if_neg (show ¬ (240 : Int32) < nI s by rw [show (240 : Int32) = nI 240 from rfl, jn_lt (by omega) (by omega)]; omega), if_neg (show ¬ (240 : Int32) < nI s by rw [show (240 : Int32) = nI 240 from rfl, jn_lt (by omega) (by omega)]; omega)]
  simp (disch := omega) only [jn_in, jn_cl, gd_dec]
  try refine cp_gd hs (by decide) ?_
  try simp (disch := omega) only [jn_in, jn_cl, gd_dec]
  rw [show nI 0 + 1 - 1 = nI 0 from rfl]
  refine h _ ⟨?_, ?_, fun j hj => ?_, fun c j w => ?_⟩
  · rw [ui_s]; rfl
  · rw [ui_c (by decide), ui_s]
  · rw [ui_c (by decide), ui_c (by decide), mj_uc_self]
    have e := jn_cl (a := s) (by omega)
    unfold va_cpy
    rw [if_pos ⟨Nat.zero_le _, by (try rw [e]); omega⟩, ui_c (by decide)]
    congr 1
    omega
  · dsimp only at w
    by_cases q3 : c = 3 ∧ j = 3
    · exact absurd (Or.inl q3) w
    rw [show ∀ (X : Nat → Nat → Int32) (y : Int32), mj_ui X 3 3 y c j = X c j from fun X y => by
      by_cases z : c = 3
      · exact ui_k (fun zz => q3 ⟨z, zz⟩)
      · exact ui_c z]
    rw [show ∀ (X : Nat → Nat → Int32) (y : Int32), mj_ui X 9 0 y c j = X c j from fun X y => by
      by_cases z : c = 9
      · exact ui_k (fun zz => w (Or.inr (Or.inl ⟨z, zz⟩)))
      · exact ui_c z]
    rw [mj_uc_ne (fun z => w (Or.inr (Or.inr z)))]
    by_cases z : c = 3
    · exact ui_k (fun zz => q3 ⟨z, zz⟩)
    · exact ui_c z
theorem sdX6_add0 : mj_Sd mX6_add 2 tX6_add0 := by
  intro Ω l d hd as M Φ h
  unfold tX6_add0 at h
  split at h
  · rename_i z_this z_c s_
    obtain ⟨⟨rfl, rfl, hM⟩, s, rfl, hp, h⟩ := h
    rw [mj_isk_of hM]
    exact mnX6_add0 hd s _ _ hp (by
      rw [mj_isk_of hM] at h
      exact h)
  · exact h.elim
def csX6_add1 : List (Nat × Nat × Nat × mj_PT) := [(29, 1, 5, mj_ptcp)]
theorem csX6_add1_ok : mj_Cs mX6_add 2 csX6_add1 := (mj_CsCp (Nat.le_of_ble_eq_true rfl) (mj_gw_in (by decide +kernel)) mj_Cs0)
def cutX6_add1 : List (Nat × List Bool) := []
set_option maxRecDepth 100000 in
set_option maxHeartbeats 4000000 in
theorem inX6_add1 {Ω : mj_Om} {l : Launch} {d : Nat} {Φ : Option Value → mj_M → Prop} (hd : 2 ≤ d) (s_ : Int32) (I : Nat → Nat → Int32) (J : Nat → Nat → Int64)
    (h : ((if (nI 1) < (4 : Int32) then (if (240 : Int32) < s_ then (Φ (some (.int (-1 : Int32))) (mk (mj_ui I 3 3 (nI 1)) J)) else (if (240 : Int32) < s_ then (Φ (some (.int (-1 : Int32))) (mk (mj_ui I 3 3 (nI 1)) J)) else (mj_gd (mj_inB (nI 1) 4) (mj_gd (mj_cpB (0 : Int32) (0 : Int32) s_ 240 240) (mj_gd (mj_inB (nI 1) 4) (Φ (some (.int (((nI 1) + (1 : Int32)) - (1 : Int32)))) (mk (mj_ui (mj_ui (mj_uc (mj_ui I 3 3 (nI 1)) 6 (va_cpy ((mj_ui I 3 3 (nI 1)) 25) ((mj_ui I 3 3 (nI 1)) 6) 0 0 (s_).toNatClampNeg)) 9 ((nI 1)).toNatClampNeg s_) 3 3 ((nI 1) + (1 : Int32))) J))))))) else (Φ (some (.int (-1 : Int32))) (mk (mj_ui I 3 3 (nI 1)) J))))) :
    mj_Met Ω l false mX6_add d 0 0 [.ref 3, .ref 25, .int s_] (mk (mj_ui I 3 3 (nI 1)) J) Φ := mj_entry (by decide) rfl (fun h => (by cases h)) (Nat.le_of_ble_eq_true rfl) (mj_blk (μ := mX6_add) (P := pX6_add) (cut := cutX6_add1) (cs := csX6_add1) dX6_add csX6_add1_ok hd 41 0 _ h)
def tX6_add1 : mj_PT := fun as M Φ => match as with
  | [.ref this, .ref c_, .int s_] => ((this = 3 ∧ c_ = 25 ∧ mj_isk M) ∧ (∃ s : Nat, s_ = nI s ∧ ((M.2.2.1 3 3 = nI 1 ∧ s ≤ 240) ∧ (∀ I1 : Nat → Nat → Int32, (I1 3 3 = nI (1 + 1) ∧ I1 9 1 = nI s ∧ (∀ j, j < s → I1 (5 + 1) j = M.2.2.1 25 j) ∧ fr (fun c j => (c = 3 ∧ j = 3) ∨ (c = 9 ∧ j = 1) ∨ c = 5 + 1) M.2.2.1 I1) → Φ (some (.int (nI 1))) (M.1, M.2.1, I1, M.2.2.2)))))
  | _ => False
set_option maxHeartbeats 4000000 in
theorem mnX6_add1 {Ω : mj_Om} {l : Launch} {d : Nat} {Φ : Option Value → mj_M → Prop} (hd : 2 ≤ d) (s : Nat) (I : Nat → Nat → Int32) (J : Nat → Nat → Int64) (hp : I 3 3 = nI 1 ∧ s ≤ 240) (h : ∀ I1 : Nat → Nat → Int32, (I1 3 3 = nI (1 + 1) ∧ I1 9 1 = nI s ∧ (∀ j, j < s → I1 (5 + 1) j = I 25 j) ∧ fr (fun c j => (c = 3 ∧ j = 3) ∨ (c = 9 ∧ j = 1) ∨ c = 5 + 1) I I1) → Φ (some (.int (nI 1))) (mk I1 J)) : mj_Met Ω l false mX6_add d 0 0 [.ref 3, .ref 25, .int (nI s)] (mk I J) Φ := by
  have e0 : mj_ui I 3 3 (nI 1) = I := ui_id hp.1
  suffices key : mj_Met Ω l false mX6_add d 0 0 [.ref 3, .ref 25, .int (nI s)] (mk (mj_ui I 3 3 (nI 1)) J) Φ by rwa [e0] at key
  refine inX6_add1 hd (nI s) I J ?_
  obtain ⟨h33, hs⟩ := hp
  rw [if_pos (by decide)]
  rw [if_neg (show ¬ (240 : Int32) < nI s by rw [show (240 : Int32) = nI 240 from rfl, jn_lt (by omega) (by omega)]; omega), if_neg (show ¬ (240 : Int32) < nI s by rw [show (240 : Int32) = nI 240 from rfl, jn_lt (by omega) (by omega)]; omega)]
  simp (disch := omega) only [jn_in, jn_cl, gd_dec]
  try refine cp_gd hs (by decide) ?_
  try simp (disch := omega) only [jn_in, jn_cl, gd_dec]
  rw [show nI 1 + 1 - 1 = nI 1 from rfl]
  refine h _ ⟨?_, ?_, fun j hj => ?_, fun c j w => ?_⟩
  · rw [ui_s]; rfl
  · rw [ui_c (by decide), ui_s]
  · rw [ui_c (by decide), ui_c (by decide), mj_uc_self]
    have e := jn_cl (a := s) (by omega)
    unfold va_cpy
    rw [if_pos ⟨Nat.zero_le _, by (try rw [e]); omega⟩, ui_c (by decide)]
    congr 1
    omega
  · dsimp only at w
    by_cases q3 : c = 3 ∧ j = 3
    · exact absurd (Or.inl q3) w
    rw [show ∀ (X : Nat → Nat → Int32) (y : Int32), mj_ui X 3 3 y c j = X c j from fun X y => by
      by_cases z : c = 3
      · exact ui_k (fun zz => q3 ⟨z, zz⟩)
      · exact ui_c z]
    rw [show ∀ (X : Nat → Nat → Int32) (y : Int32), mj_ui X 9 1 y c j = X c j from fun X y => by
      by_cases z : c = 9
      · exact ui_k (fun zz => w (Or.inr (Or.inl ⟨z, zz⟩)))
      · exact ui_c z]
    rw [mj_uc_ne (fun z => w (Or.inr (Or.inr z)))]
    by_cases z : c = 3
    · exact ui_k (fun zz => q3 ⟨z, zz⟩)
    · exact ui_c z
theorem sdX6_add1 : mj_Sd mX6_add 2 tX6_add1 := by
  intro Ω l d hd as M Φ h
  unfold tX6_add1 at h
  split at h
  · rename_i z_this z_c s_
    obtain ⟨⟨rfl, rfl, hM⟩, s, rfl, hp, h⟩ := h
    rw [mj_isk_of hM]
    exact mnX6_add1 hd s _ _ hp (by
      rw [mj_isk_of hM] at h
      exact h)
  · exact h.elim
def csX6_add2 : List (Nat × Nat × Nat × mj_PT) := [(29, 1, 5, mj_ptcp)]
theorem csX6_add2_ok : mj_Cs mX6_add 2 csX6_add2 := (mj_CsCp (Nat.le_of_ble_eq_true rfl) (mj_gw_in (by decide +kernel)) mj_Cs0)
def cutX6_add2 : List (Nat × List Bool) := []
set_option maxRecDepth 100000 in
set_option maxHeartbeats 4000000 in
theorem inX6_add2 {Ω : mj_Om} {l : Launch} {d : Nat} {Φ : Option Value → mj_M → Prop} (hd : 2 ≤ d) (s_ : Int32) (I : Nat → Nat → Int32) (J : Nat → Nat → Int64)
    (h : ((if (nI 2) < (4 : Int32) then (if (240 : Int32) < s_ then (Φ (some (.int (-1 : Int32))) (mk (mj_ui I 3 3 (nI 2)) J)) else (if (240 : Int32) < s_ then (Φ (some (.int (-1 : Int32))) (mk (mj_ui I 3 3 (nI 2)) J)) else (mj_gd (mj_inB (nI 2) 4) (mj_gd (mj_cpB (0 : Int32) (0 : Int32) s_ 240 240) (mj_gd (mj_inB (nI 2) 4) (Φ (some (.int (((nI 2) + (1 : Int32)) - (1 : Int32)))) (mk (mj_ui (mj_ui (mj_uc (mj_ui I 3 3 (nI 2)) 7 (va_cpy ((mj_ui I 3 3 (nI 2)) 25) ((mj_ui I 3 3 (nI 2)) 7) 0 0 (s_).toNatClampNeg)) 9 ((nI 2)).toNatClampNeg s_) 3 3 ((nI 2) + (1 : Int32))) J))))))) else (Φ (some (.int (-1 : Int32))) (mk (mj_ui I 3 3 (nI 2)) J))))) :
    mj_Met Ω l false mX6_add d 0 0 [.ref 3, .ref 25, .int s_] (mk (mj_ui I 3 3 (nI 2)) J) Φ := mj_entry (by decide) rfl (fun h => (by cases h)) (Nat.le_of_ble_eq_true rfl) (mj_blk (μ := mX6_add) (P := pX6_add) (cut := cutX6_add2) (cs := csX6_add2) dX6_add csX6_add2_ok hd 41 0 _ h)
def tX6_add2 : mj_PT := fun as M Φ => match as with
  | [.ref this, .ref c_, .int s_] => ((this = 3 ∧ c_ = 25 ∧ mj_isk M) ∧ (∃ s : Nat, s_ = nI s ∧ ((M.2.2.1 3 3 = nI 2 ∧ s ≤ 240) ∧ (∀ I1 : Nat → Nat → Int32, (I1 3 3 = nI (2 + 1) ∧ I1 9 2 = nI s ∧ (∀ j, j < s → I1 (5 + 2) j = M.2.2.1 25 j) ∧ fr (fun c j => (c = 3 ∧ j = 3) ∨ (c = 9 ∧ j = 2) ∨ c = 5 + 2) M.2.2.1 I1) → Φ (some (.int (nI 2))) (M.1, M.2.1, I1, M.2.2.2)))))
  | _ => False
set_option maxHeartbeats 4000000 in
theorem mnX6_add2 {Ω : mj_Om} {l : Launch} {d : Nat} {Φ : Option Value → mj_M → Prop} (hd : 2 ≤ d) (s : Nat) (I : Nat → Nat → Int32) (J : Nat → Nat → Int64) (hp : I 3 3 = nI 2 ∧ s ≤ 240) (h : ∀ I1 : Nat → Nat → Int32, (I1 3 3 = nI (2 + 1) ∧ I1 9 2 = nI s ∧ (∀ j, j < s → I1 (5 + 2) j = I 25 j) ∧ fr (fun c j => (c = 3 ∧ j = 3) ∨ (c = 9 ∧ j = 2) ∨ c = 5 + 2) I I1) → Φ (some (.int (nI 2))) (mk I1 J)) : mj_Met Ω l false mX6_add d 0 0 [.ref 3, .ref 25, .int (nI s)] (mk I J) Φ := by
  have e0 : mj_ui I 3 3 (nI 2) = I := ui_id hp.1
  suffices key : mj_Met Ω l false mX6_add d 0 0 [.ref 3, .ref 25, .int (nI s)] (mk (mj_ui I 3 3 (nI 2)) J) Φ by rwa [e0] at key
  refine inX6_add2 hd (nI s) I J ?_
  obtain ⟨h33, hs⟩ := hp
  rw [if_pos (by decide)]
  rw [if_neg (show ¬ (240 : Int32) < nI s by rw [show (240 : Int32) = nI 240 from rfl, jn_lt (by omega) (by omega)]; omega), if_neg (show ¬ (240 : Int32) < nI s by rw [show (240 : Int32) = nI 240 from rfl, jn_lt (by omega) (by omega)]; omega)]
  simp (disch := omega) only [jn_in, jn_cl, gd_dec]
  try refine cp_gd hs (by decide) ?_
  try simp (disch := omega) only [jn_in, jn_cl, gd_dec]
  rw [show nI 2 + 1 - 1 = nI 2 from rfl]
  refine h _ ⟨?_, ?_, fun j hj => ?_, fun c j w => ?_⟩
  · rw [ui_s]; rfl
  · rw [ui_c (by decide), ui_s]
  · rw [ui_c (by decide), ui_c (by decide), mj_uc_self]
    have e := jn_cl (a := s) (by omega)
    unfold va_cpy
    rw [if_pos ⟨Nat.zero_le _, by (try rw [e]); omega⟩, ui_c (by decide)]
    congr 1
    omega
  · dsimp only at w
    by_cases q3 : c = 3 ∧ j = 3
    · exact absurd (Or.inl q3) w
    rw [show ∀ (X : Nat → Nat → Int32) (y : Int32), mj_ui X 3 3 y c j = X c j from fun X y => by
      by_cases z : c = 3
      · exact ui_k (fun zz => q3 ⟨z, zz⟩)
      · exact ui_c z]
    rw [show ∀ (X : Nat → Nat → Int32) (y : Int32), mj_ui X 9 2 y c j = X c j from fun X y => by
      by_cases z : c = 9
      · exact ui_k (fun zz => w (Or.inr (Or.inl ⟨z, zz⟩)))
      · exact ui_c z]
    rw [mj_uc_ne (fun z => w (Or.inr (Or.inr z)))]
    by_cases z : c = 3
    · exact ui_k (fun zz => q3 ⟨z, zz⟩)
    · exact ui_c z
theorem sdX6_add2 : mj_Sd mX6_add 2 tX6_add2 := by
  intro Ω l d hd as M Φ h
  unfold tX6_add2 at h
  split at h
  · rename_i z_this z_c s_
    obtain ⟨⟨rfl, rfl, hM⟩, s, rfl, hp, h⟩ := h
    rw [mj_isk_of hM]
    exact mnX6_add2 hd s _ _ hp (by
      rw [mj_isk_of hM] at h
      exact h)
  · exact h.elim
def csX6_add3 : List (Nat × Nat × Nat × mj_PT) := [(29, 1, 5, mj_ptcp)]
theorem csX6_add3_ok : mj_Cs mX6_add 2 csX6_add3 := (mj_CsCp (Nat.le_of_ble_eq_true rfl) (mj_gw_in (by decide +kernel)) mj_Cs0)
def cutX6_add3 : List (Nat × List Bool) := []
set_option maxRecDepth 100000 in
set_option maxHeartbeats 4000000 in
theorem inX6_add3 {Ω : mj_Om} {l : Launch} {d : Nat} {Φ : Option Value → mj_M → Prop} (hd : 2 ≤ d) (s_ : Int32) (I : Nat → Nat → Int32) (J : Nat → Nat → Int64)
    (h : ((if (nI 3) < (4 : Int32) then (if (240 : Int32) < s_ then (Φ (some (.int (-1 : Int32))) (mk (mj_ui I 3 3 (nI 3)) J)) else (if (240 : Int32) < s_ then (Φ (some (.int (-1 : Int32))) (mk (mj_ui I 3 3 (nI 3)) J)) else (mj_gd (mj_inB (nI 3) 4) (mj_gd (mj_cpB (0 : Int32) (0 : Int32) s_ 240 240) (mj_gd (mj_inB (nI 3) 4) (Φ (some (.int (((nI 3) + (1 : Int32)) - (1 : Int32)))) (mk (mj_ui (mj_ui (mj_uc (mj_ui I 3 3 (nI 3)) 8 (va_cpy ((mj_ui I 3 3 (nI 3)) 25) ((mj_ui I 3 3 (nI 3)) 8) 0 0 (s_).toNatClampNeg)) 9 ((nI 3)).toNatClampNeg s_) 3 3 ((nI 3) + (1 : Int32))) J))))))) else (Φ (some (.int (-1 : Int32))) (mk (mj_ui I 3 3 (nI 3)) J))))) :
    mj_Met Ω l false mX6_add d 0 0 [.ref 3, .ref 25, .int s_] (mk (mj_ui I 3 3 (nI 3)) J) Φ := mj_entry (by decide) rfl (fun h => (by cases h)) (Nat.le_of_ble_eq_true rfl) (mj_blk (μ := mX6_add) (P := pX6_add) (cut := cutX6_add3) (cs := csX6_add3) dX6_add csX6_add3_ok hd 41 0 _ h)
def tX6_add3 : mj_PT := fun as M Φ => match as with
  | [.ref this, .ref c_, .int s_] => ((this = 3 ∧ c_ = 25 ∧ mj_isk M) ∧ (∃ s : Nat, s_ = nI s ∧ ((M.2.2.1 3 3 = nI 3 ∧ s ≤ 240) ∧ (∀ I1 : Nat → Nat → Int32, (I1 3 3 = nI (3 + 1) ∧ I1 9 3 = nI s ∧ (∀ j, j < s → I1 (5 + 3) j = M.2.2.1 25 j) ∧ fr (fun c j => (c = 3 ∧ j = 3) ∨ (c = 9 ∧ j = 3) ∨ c = 5 + 3) M.2.2.1 I1) → Φ (some (.int (nI 3))) (M.1, M.2.1, I1, M.2.2.2)))))
  | _ => False
set_option maxHeartbeats 4000000 in
theorem mnX6_add3 {Ω : mj_Om} {l : Launch} {d : Nat} {Φ : Option Value → mj_M → Prop} (hd : 2 ≤ d) (s : Nat) (I : Nat → Nat → Int32) (J : Nat → Nat → Int64) (hp : I 3 3 = nI 3 ∧ s ≤ 240) (h : ∀ I1 : Nat → Nat → Int32, (I1 3 3 = nI (3 + 1) ∧ I1 9 3 = nI s ∧ (∀ j, j < s → I1 (5 + 3) j = I 25 j) ∧ fr (fun c j => (c = 3 ∧ j = 3) ∨ (c = 9 ∧ j = 3) ∨ c = 5 + 3) I I1) → Φ (some (.int (nI 3))) (mk I1 J)) : mj_Met Ω l false mX6_add d 0 0 [.ref 3, .ref 25, .int (nI s)] (mk I J) Φ := by
  have e0 : mj_ui I 3 3 (nI 3) = I := ui_id hp.1
  suffices key : mj_Met Ω l false mX6_add d 0 0 [.ref 3, .ref 25, .int (nI s)] (mk (mj_ui I 3 3 (nI 3)) J) Φ by rwa [e0] at key
  refine inX6_add3 hd (nI s) I J ?_
  obtain ⟨h33, hs⟩ := hp
  rw [if_pos (by decide)]
  rw [if_neg (show ¬ (240 : Int32) < nI s by rw [show (240 : Int32) = nI 240 from rfl, jn_lt (by omega) (by omega)]; omega), if_neg (show ¬ (240 : Int32) < nI s by rw [show (240 : Int32) = nI 240 from rfl, jn_lt (by omega) (by omega)]; omega)]
  simp (disch := omega) only [jn_in, jn_cl, gd_dec]
  try refine cp_gd hs (by decide) ?_
  try simp (disch := omega) only [jn_in, jn_cl, gd_dec]
  rw [show nI 3 + 1 - 1 = nI 3 from rfl]
  refine h _ ⟨?_, ?_, fun j hj => ?_, fun c j w => ?_⟩
  · rw [ui_s]; rfl
  · rw [ui_c (by decide), ui_s]
  · rw [ui_c (by decide), ui_c (by decide), mj_uc_self]
    have e := jn_cl (a := s) (by omega)
    unfold va_cpy
    rw [if_pos ⟨Nat.zero_le _, by (try rw [e]); omega⟩, ui_c (by decide)]
    congr 1
    omega
  · dsimp only at w
    by_cases q3 : c = 3 ∧ j = 3
    · exact absurd (Or.inl q3) w
    rw [show ∀ (X : Nat → Nat → Int32) (y : Int32), mj_ui X 3 3 y c j = X c j from fun X y => by
      by_cases z : c = 3
      · exact ui_k (fun zz => q3 ⟨z, zz⟩)
      · exact ui_c z]
    rw [show ∀ (X : Nat → Nat → Int32) (y : Int32), mj_ui X 9 3 y c j = X c j from fun X y => by
      by_cases z : c = 9
      · exact ui_k (fun zz => w (Or.inr (Or.inl ⟨z, zz⟩)))
      · exact ui_c z]
    rw [mj_uc_ne (fun z => w (Or.inr (Or.inr z)))]
    by_cases z : c = 3
    · exact ui_k (fun zz => q3 ⟨z, zz⟩)
    · exact ui_c z
theorem sdX6_add3 : mj_Sd mX6_add 2 tX6_add3 := by
  intro Ω l d hd as M Φ h
  unfold tX6_add3 at h
  split at h
  · rename_i z_this z_c s_
    obtain ⟨⟨rfl, rfl, hM⟩, s, rfl, hp, h⟩ := h
    rw [mj_isk_of hM]
    exact mnX6_add3 hd s _ _ hp (by
      rw [mj_isk_of hM] at h
      exact h)
  · exact h.elim
def tX6_add : mj_PT := fun as M Φ => match as with
  | [.ref this, .ref c_, .int s_] => ((this = 3 ∧ c_ = 25 ∧ mj_isk M) ∧ (∃ s : Nat, s_ = nI s ∧ (∃ k : Nat, ((M.2.2.1 3 3 = nI k ∧ k < 4 ∧ s ≤ 240) ∧ (∀ I1 : Nat → Nat → Int32, (I1 3 3 = nI (k + 1) ∧ I1 9 k = nI s ∧ (∀ j, j < s → I1 (5 + k) j = M.2.2.1 25 j) ∧ fr (fun c j => (c = 3 ∧ j = 3) ∨ (c = 9 ∧ j = k) ∨ c = 5 + k) M.2.2.1 I1) → Φ (some (.int (nI k))) (M.1, M.2.1, I1, M.2.2.2))))))
  | _ => False
theorem sdX6_add : mj_Sd mX6_add 2 tX6_add := by
  intro Ω l d hd as M Φ h
  unfold tX6_add at h
  split at h
  · obtain ⟨⟨rfl, rfl, hM⟩, s, rfl, k, ⟨h33, hk, hs⟩, h⟩ := h
    rcases (by omega : k = 0 ∨ k = 1 ∨ k = 2 ∨ k = 3) with rfl | rfl | rfl | rfl
    · exact sdX6_add0 Ω l d hd _ M Φ ⟨⟨rfl, rfl, hM⟩, s, rfl, ⟨h33, hs⟩, h⟩
    · exact sdX6_add1 Ω l d hd _ M Φ ⟨⟨rfl, rfl, hM⟩, s, rfl, ⟨h33, hs⟩, h⟩
    · exact sdX6_add2 Ω l d hd _ M Φ ⟨⟨rfl, rfl, hM⟩, s, rfl, ⟨h33, hs⟩, h⟩
    · exact sdX6_add3 Ω l d hd _ M Φ ⟨⟨rfl, rfl, hM⟩, s, rfl, ⟨h33, hs⟩, h⟩
  · exact h.elim
theorem rl_er {t : Nat} {τ : Nat → Int32} (ht : t ≤ 240) : ∀ (f q : Nat) (ks : List (List Int32 × List Int32)) (e : Nat), t + 1 ≤ q + f → q ≤ t → rlP t τ f q ks = .error e → e ≤ t := by
  intro f
  induction f with
  | zero => intro q ks e hf hq; omega
  | succ f ih =>
    intro q ks e hf hq he
    rw [rlP] at he
    cases hs : clP t τ q with
    | error e' => rw [hs] at he; cases he; exact (cl_ok hq).1 _ hs
    | ok r =>
      rw [hs] at he
      dsimp only at he
      obtain ⟨p1, p2, p3, p4⟩ := (cl_ok hq).2 r hs
      have k2 := skp_ge (t := t) (τ := τ) (p := r.1)
      by_cases s1 : nsg t τ r.1 = 59
      · rw [if_pos s1] at he
        exact ih _ _ e (by omega) (nsg_p s1 (by decide)) he
      · rw [if_neg s1] at he
        by_cases s2 : nsg t τ r.1 = -1
        · rw [if_pos s2] at he; cases he
        · rw [if_neg s2] at he; cases he; exact skp_le p2
theorem ru_er {t : Nat} {τ : Nat → Int32} {e : Nat} (ht : t ≤ 240) (h : ruP t τ = .error e) : e ≤ t := rl_er ht (t + 1) 0 [] e (by omega) (by omega) h
/-- what takeRule answers -/
def trR {α : Type} (m : Nat) (r : Except Nat α) : Int32 := if m < 4 then (match r with
  | .error _ => -1
  | .ok _ => nI m) else -1
def tkC (m : Nat) (r : Except Nat (List (List Int32 × List Int32))) (I I1 : Nat → Nat → Int32) : Prop := (∀ e, (m < 4 → r = .error e) → fr cFr I I1) ∧ ∀ ks, m < 4 → r = .ok ks → I1 1 1 = 0 ∧ I1 3 3 = nI (m + 1) ∧ I1 9 m = nI (flatK 0 ks).length ∧ (∀ j, j < (flatK 0 ks).length → I1 (5 + m) j = (flatK 0 ks).getD j 0) ∧ fr (fun c j => cFr c j ∨ (c = 1 ∧ j = 1) ∨ (c = 3 ∧ j = 3) ∨ (c = 9 ∧ j = m) ∨ c = 5 + m) I I1
def csX11_takeRule : List (Nat × Nat × Nat × mj_PT) := [(121, 0, 1, mj_rcv 7 tX7_findFault), (156, 0, 3, mj_rcv 6 tX6_add)]
theorem csX11_takeRule_ok : mj_Cs mX11_takeRule 36 csX11_takeRule := (mj_CsV (D' := 35) (ci := 7) (q := (RX7, TX7, 3)) sdX7_findFault (Nat.le_of_ble_eq_true rfl) fX7_findFault rfl rfl iX7_findFault vX7_findFault (by decide +kernel) l11_121 (mj_CsV (D' := 2) (ci := 6) (q := (RX6, TX6, 4)) sdX6_add (Nat.le_of_ble_eq_true rfl) fX6_add rfl rfl iX6_add vX6_add (by decide +kernel) l11_156 mj_Cs0))
def cutX11_takeRule : List (Nat × List Bool) := []
set_option maxRecDepth 100000 in
set_option maxHeartbeats 4000000 in
theorem inX11_takeRule {Ω : mj_Om} {l : Launch} {d : Nat} {Φ : Option Value → mj_M → Prop} (hd : 36 ≤ d) (I : Nat → Nat → Int32) (J : Nat → Nat → Int64)
    (h : ((if (I 3 3) < (4 : Int32) then ((24 = 24 ∧ mj_isk (mk I J)) ∧ (∃ t2580 : Nat, (∃ τ2581 : Nat → Int32, ((TC I t2580 τ2581) ∧ (∀ I2582 : Nat → Nat → Int32, (fr cFr I I2582 ∧ ∀ ks, ruP t2580 τ2581 = .ok ks → Cd I2582 0 (flatK 0 ks) (I 25)) → (if (faR (ruP t2580 τ2581)) = (-1 : Int32) then ((3 = 3 ∧ 25 = 25 ∧ mj_isk (mk (mj_ui I2582 1 1 (0 : Int32)) J)) ∧ (∃ s2584 : Nat, (I2582 24 2) = nI s2584 ∧ (∃ k2585 : Nat, (((mj_ui I2582 1 1 (0 : Int32)) 3 3 = nI k2585 ∧ k2585 < 4 ∧ s2584 ≤ 240) ∧ (∀ I2586 : Nat → Nat → Int32, (I2586 3 3 = nI (k2585 + 1) ∧ I2586 9 k2585 = nI s2584 ∧ (∀ j, j < s2584 → I2586 (5 + k2585) j = (mj_ui I2582 1 1 (0 : Int32)) 25 j) ∧ fr (fun c j => (c = 3 ∧ j = 3) ∨ (c = 9 ∧ j = k2585) ∨ c = 5 + k2585) (mj_ui I2582 1 1 (0 : Int32)) I2586) → (Φ (some (.int (nI k2585))) (mk I2586 J))))))) else (Φ (some (.int (-1 : Int32))) (mk I2582 J)))))))) else (Φ (some (.int (-1 : Int32))) (mk I J))))) :
    mj_Met Ω l false mX11_takeRule d 0 0 [.ref 0] (mk I J) Φ := mj_entry (by decide) rfl (fun h => (by cases h)) (Nat.le_of_ble_eq_true rfl) (mj_blk (μ := mX11_takeRule) (P := pX11_takeRule) (cut := cutX11_takeRule) (cs := csX11_takeRule) dX11_takeRule csX11_takeRule_ok hd 27 0 _ h)
def tX11_takeRule : mj_PT := fun as M Φ => match as with
  | [.ref this] => ((this = 0 ∧ mj_isk M) ∧ (∃ t : Nat, (∃ τ : Nat → Int32, (∃ m : Nat, ((TC M.2.2.1 t τ ∧ M.2.2.1 3 3 = nI m ∧ m ≤ 4) ∧ (∀ I1 : Nat → Nat → Int32, (tkC m (ruP t τ) M.2.2.1 I1) → Φ (some (.int (trR m (ruP t τ)))) (M.1, M.2.1, I1, M.2.2.2)))))))
  | _ => False
set_option maxHeartbeats 4000000 in
theorem mnX11_takeRule {Ω : mj_Om} {l : Launch} {d : Nat} {Φ : Option Value → mj_M → Prop} (hd : 36 ≤ d) (t : Nat) (τ : Nat → Int32) (m : Nat) (I : Nat → Nat → Int32) (J : Nat → Nat → Int64) (hp : TC I t τ ∧ I 3 3 = nI m ∧ m ≤ 4) (h : ∀ I1 : Nat → Nat → Int32, (tkC m (ruP t τ) I I1) → Φ (some (.int (trR m (ruP t τ)))) (mk I1 J)) : mj_Met Ω l false mX11_takeRule d 0 0 [.ref 0] (mk I J) Φ := by
  refine inX11_takeRule hd I J ?_
  obtain ⟨hT, h33, hm⟩ := hp
  have ht := hT.1.1
  rw [h33]
  by_cases q : m < 4
  case neg =>
    rw [if_neg (show ¬ nI m < 4 from nnl (a := m) (b := 4) (by omega) (by omega))]
    have := h I ⟨fun e _ => fr_rf, fun ks q2 => absurd q2 q⟩
    unfold trR at this
    rwa [if_neg q] at this
  rw [if_pos (show nI m < 4 from nlt (a := m) (b := 4) q (by omega))]
  refine ⟨⟨by trivial, mj_isk_mk _ _⟩, t, τ, hT, fun A hA => ?_⟩
  obtain ⟨a1, a2⟩ := hA
  cases hr : ruP t τ with
  | error e =>
    have e300 : ¬ nI e = -1 := nI_n1 (by have := ru_er ht hr; omega)
    rw [if_neg (show ¬ faR (Except.error e : Except Nat (List (List Int32 × List Int32))) = -1 from e300)]
    have := h A ⟨fun e _ => a1, fun ks _ q2 => by rw [hr] at q2; cases q2⟩
    rw [hr] at this
    unfold trR at this
    rwa [if_pos q] at this
  | ok ks =>
    rw [if_pos (show faR (Except.ok ks : Except Nat (List (List Int32 × List Int32))) = -1 from rfl)]
    have c0 := a2 ks hr
    have l0 := (ru_ok hr).1
    have a24 : A 24 2 = nI (flatK 0 ks).length := by rw [c0.1, Nat.zero_add]
    rw [a24]
    refine ⟨⟨by trivial, by trivial, mj_isk_mk _ _⟩, (flatK 0 ks).length, rfl, m, ⟨by rw [ui_c (by decide), a1 3 3 (by unfold cFr; omega)]; exact h33, q, by omega⟩, fun B hB => ?_⟩
    obtain ⟨b1, b2, b3, b4⟩ := hB
    have hf : fr (fun c j => cFr c j ∨ (c = 1 ∧ j = 1) ∨ (c = 3 ∧ j = 3) ∨ (c = 9 ∧ j = m) ∨ c = 5 + m) I B := fun c j w => by
      dsimp only at w
      rw [b4 c j (by (try dsimp only); omega)]
      rw [show ∀ (X : Nat → Nat → Int32) (y : Int32), mj_ui X 1 1 y c j = X c j from fun X y => by
        by_cases z : c = 1
        · exact ui_k (fun zz => w (Or.inr (Or.inl ⟨z, zz⟩)))
        · exact ui_c z]
      exact a1 c j (fun z => w (Or.inl z))
    have := h B ⟨fun e w => absurd (w q) (by rw [hr]; exact fun z => by cases z), fun ks' _ q2 => by
      rw [hr] at q2
      cases q2
      refine ⟨by rw [b4 1 1 (by (try dsimp only); omega), ui_s], b1, b2, fun j hj => ?_, hf⟩
      rw [b3 j hj, ui_c (by decide)]
      have := c0.2.1 j hj
      rwa [Nat.zero_add] at this⟩
    rw [hr] at this
    unfold trR at this
    rwa [if_pos q] at this
theorem sdX11_takeRule : mj_Sd mX11_takeRule 36 tX11_takeRule := by
  intro Ω l d hd as M Φ h
  unfold tX11_takeRule at h
  split at h
  · rename_i z_this
    obtain ⟨⟨rfl, hM⟩, t, τ, m, hp, h⟩ := h
    rw [mj_isk_of hM]
    exact mnX11_takeRule hd t τ m _ _ hp (by
      rw [mj_isk_of hM] at h
      exact h)
  · exact h.elim
