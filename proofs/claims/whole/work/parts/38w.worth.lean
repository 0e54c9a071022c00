/-! ===== a rule's worth: the class's pile (by program, wip/whole/pw.py) ===== -/
def isK (k : Nat) : Prop := k = 0 ∨ k = 1 ∨ k = 2 ∨ k = 3
theorem isK_of {k : Nat} (h : k < 4) : isK k := by unfold isK; omega
theorem isK_lt {k : Nat} (h : isK k) : k < 4 := by unfold isK at h; omega
def i6 (a : Int) : Prop := -1000000 ≤ a ∧ a ≤ 1000000
theorem oI {a : Int} (h : i6 a) : (Int32.ofInt a).toInt = a := Int32.toInt_ofInt_of_le (by have := h.1; omega) (by have := h.2; omega)
def jnP (x a b : Int32) : Prop := (20000 ≤ x.toInt ∧ x.toInt ≤ 20008) ∧ i6 a.toInt ∧ i6 b.toInt ∧ (20007 ≤ x.toInt → (a.toInt = 0 ∨ a.toInt = 1) ∧ (b.toInt = 0 ∨ b.toInt = 1))
theorem bnd_6 (a : Int) : i6 (bnd a) := by unfold bnd i6; split <;> (try split) <;> omega
def pil (I : Nat → Nat → Int32) (c : Nat) : List Int → Prop
  | [] => True
  | a :: st => I c st.length = Int32.ofInt a ∧ pil I c st
theorem pil_up {I : Nat → Nat → Int32} {c k : Nat} {x : Int32} : ∀ {st : List Int}, pil I c st → st.length ≤ k → pil (mj_ui I c k x) c st
  | [], _, _ => trivial
  | a :: st, h, hk => ⟨by rw [ui_k (by simp at hk; omega)]; exact h.1, pil_up h.2 (by simp at hk; omega)⟩
def stK : List Bool → List Int → Prop
  | [], [] => True
  | k :: ks, a :: st => i6 a ∧ (k = true → a = 0 ∨ a = 1) ∧ stK ks st
  | _, _ => False
theorem stK_len : ∀ {ks : List Bool} {st : List Int}, stK ks st → ks.length = st.length
  | [], [], _ => rfl
  | [], _ :: _, h => h.elim
  | _ :: _, [], h => h.elim
  | _ :: _, _ :: _, h => by simp [stK_len h.2.2]
theorem tyS_c {x : Int32} {ks ks2 : List Bool} (h : tyS x ks = some ks2) : (0 ≤ x.toInt ∧ x.toInt < 10007 ∧ ks.length < 30 ∧ ks2 = false :: ks) ∨ (x.toInt = 20009 ∧ ∃ r, ks = true :: r ∧ ks2 = true :: r) ∨ (20000 ≤ x.toInt ∧ x.toInt ≤ 20008 ∧ ∃ r k k2, ks = k :: k :: r ∧ ks2 = k2 :: r ∧ (k = true ↔ 20007 ≤ x.toInt) ∧ (k2 = true → 20004 ≤ x.toInt)) := by
  unfold tyS at h
  split at h
  · split at h
    · cases h; exact Or.inl ⟨by omega, by omega, by assumption, rfl⟩
    · cases h
  split at h
  · split at h
    · cases h; exact Or.inr (Or.inl ⟨by assumption, _, rfl, rfl⟩)
    · cases h
  split at h
  · split at h
    · cases h; exact Or.inr (Or.inr ⟨by omega, by omega, _, _, _, rfl, rfl, by simp; omega, by simp⟩)
    · cases h
  split at h
  · split at h
    · cases h; exact Or.inr (Or.inr ⟨by omega, by omega, _, _, _, rfl, rfl, by simp; omega, by simp; omega⟩)
    · cases h
  split at h
  · split at h
    · cases h; exact Or.inr (Or.inr ⟨by omega, by omega, _, _, _, rfl, rfl, by simp; omega, by simp; omega⟩)
    · cases h
  cases h
theorem jnI_b {x a b : Int} (h : 20004 ≤ x) : jnI x a b = 0 ∨ jnI x a b = 1 := by
  unfold jnI
  rw [if_neg (by omega), if_neg (by omega), if_neg (by omega), if_neg (by omega)]
  repeat' split
  all_goals omega
theorem stK_st {L : Nat → Int32} {x : Int32} {ks ks2 : List Bool} {st : List Int} (hL : letB L) (h : tyS x ks = some ks2) (hs : stK ks st) : stK ks2 (stC L x st) := by
  rcases tyS_c h with ⟨h1, h2, h3, rfl⟩ | ⟨h1, r, rfl, rfl⟩ | ⟨h1, h2, r, k, k2, rfl, rfl, h3, h4⟩
  · unfold stC
    by_cases q : x.toInt < 10000
    · rw [if_pos q]; exact ⟨⟨by omega, by omega⟩, (fun z => by cases z), hs⟩
    · rw [if_neg q, if_pos (by omega)]; exact ⟨hL _, (fun z => by cases z), hs⟩
  · unfold stC
    rw [if_neg (by omega), if_neg (by omega)]
    match st, hs with
    | a :: s, hs =>
      simp only [h1, if_true]
      rcases hs.2.1 rfl with q | q <;> subst q <;> exact ⟨⟨by decide, by decide⟩, fun _ => by decide, hs.2.2⟩
  · unfold stC
    rw [if_neg (by omega), if_neg (by omega)]
    match st, hs with
    | a :: b :: s, hs =>
      simp only
      rw [if_neg (by omega)]
      refine ⟨bnd_6 _, fun z => ?_, hs.2.2.2.2⟩
      rcases jnI_b (a := b) (b := a) (h4 z) with q | q <;> rw [q] <;> decide
theorem tyL_c {x : Int32} {xs : List Int32} {ks ks2 : List Bool} (h : tyL (x :: xs) ks = some ks2) : ∃ k3, tyS x ks = some k3 ∧ tyL xs k3 = some ks2 := by
  unfold tyL at h
  split at h
  · exact ⟨_, by assumption, h⟩
  · cases h
theorem s16a : (Int16.ofInt 20000).toInt32 = 20000 := by decide
theorem s16b : (Int16.ofInt 10000).toInt32 = 10000 := by decide
theorem s16c : (Int16.ofInt 30000).toInt32 = 30000 := by decide
theorem s16d : (Int16.ofInt 20009).toInt32 = 20009 := by decide
theorem s16f : Int32.ofInt (-1) = -1 := by decide
theorem s16g : Int32.ofInt 1 = 1 := by decide
theorem s16h : Int32.ofInt 2 = 2 := by decide
theorem s16i : Int32.ofInt 0 = 0 := by decide
theorem s16e : (Int16.ofInt 20010).toInt32 = 20010 := by decide
theorem tyS_len {x : Int32} {ks ks2 : List Bool} (h : tyS x ks = some ks2) (hl : ks.length ≤ 30) : ks2.length ≤ 30 := by
  rcases tyS_c h with ⟨h1, h2, h3, rfl⟩ | ⟨h1, r, rfl, rfl⟩ | ⟨h1, h2, r, k, k2, rfl, rfl, h3, h4⟩
  · simp; omega
  · exact hl
  · simp at hl ⊢; omega
theorem mul_6 {a b : Int} (ha : i6 a) (hb : i6 b) : -1000000000000 ≤ a * b ∧ a * b ≤ 1000000000000 := by
  have h1 : (a * b).natAbs ≤ 1000000 * 1000000 := by
    rw [Int.natAbs_mul]
    exact Nat.mul_le_mul (by have := ha.1; have := ha.2; omega) (by have := hb.1; have := hb.2; omega)
  omega
theorem jnI_bd {x a b : Int} (ha : i6 a) (hb : i6 b) : -1000000000000 ≤ jnI x a b ∧ jnI x a b ≤ 1000000000000 := by
  have h1 := mul_6 ha hb
  have h2 := Int.natAbs_tdiv_le_natAbs a b
  obtain ⟨a1, a2⟩ := ha
  obtain ⟨b1, b2⟩ := hb
  unfold jnI
  repeat' split
  all_goals omega
theorem stK_ex {L : Nat → Int32} (hL : letB L) : ∀ {xs : List Int32} {ks ks2 : List Bool} {st : List Int}, tyL xs ks = some ks2 → stK ks st → stK ks2 (exC L xs st)
  | [], ks, ks2, st, h, hs => by cases h; exact hs
  | x :: xs, ks, ks2, st, h, hs => by
    unfold tyL at h
    split at h
    · rename_i k3 q; exact stK_ex hL (xs := xs) (st := stC L x st) h (stK_st hL q hs)
    · cases h
noncomputable def bndW (y : Int64) : Int32 := hid (Int32.ofInt (bnd y.toInt))
noncomputable def jnW (x a b : Int32) : Int64 := hid (Int64.ofInt (jnI x.toInt a.toInt b.toInt))
noncomputable def hidP (p : Prop) : Prop := Classical.choose (⟨p, rfl⟩ : ∃ y, y = p)
theorem hidP_eq (p : Prop) : hidP p = p := Classical.choose_spec (⟨p, rfl⟩ : ∃ y, y = p)
theorem bndW_eq (y : Int64) : bndW y = Int32.ofInt (bnd y.toInt) := hid_eq _
theorem jnW_eq (x a b : Int32) : jnW x a b = Int64.ofInt (jnI x.toInt a.toInt b.toInt) := hid_eq _
theorem l2m {a : Int} : (Int64.ofInt a).toInt32 = Int32.ofInt a := Int64.toInt32_ofInt
def csX6_bounded : List (Nat × Nat × Nat × mj_PT) := []
theorem csX6_bounded_ok : mj_Cs mX6_bounded 1 csX6_bounded := mj_Cs0
def cutX6_bounded : List (Nat × List Bool) := []
set_option maxRecDepth 100000 in
set_option maxHeartbeats 4000000 in
theorem inX6_bounded {Ω : mj_Om} {l : Launch} {d : Nat} {Φ : Option Value → mj_M → Prop} (hd : 1 ≤ d) (y : Int64) (I : Nat → Nat → Int32) (J : Nat → Nat → Int64)
    (h : ((if (0 : Int32) < (lg_cmp y (1000000 : Int64)) then (Φ (some (.int (1000000 : Int32))) (mk I J)) else (if (lg_cmp y (-1000000 : Int64)) < (0 : Int32) then (Φ (some (.int (-1000000 : Int32))) (mk I J)) else (Φ (some (.int ((y).toInt32))) (mk I J)))))) :
    mj_Met Ω l false mX6_bounded d 0 0 [.long y] (mk I J) Φ := mj_entry (by decide) rfl (fun h => (by cases h)) (Nat.le_of_ble_eq_true rfl) (mj_blk (μ := mX6_bounded) (P := pX6_bounded) (cut := cutX6_bounded) (cs := csX6_bounded) dX6_bounded csX6_bounded_ok hd 16 0 _ h)
def tX6_bounded : mj_PT := fun as M Φ => match as with
  | [.long y] => ((mj_isk M) ∧ Φ (some (.int (bndW y))) M)
  | _ => False
theorem mnX6_bounded {Ω : mj_Om} {l : Launch} {d : Nat} {Φ : Option Value → mj_M → Prop} (hd : 1 ≤ d) (y : Int64) (I : Nat → Nat → Int32) (J : Nat → Nat → Int64) (h : Φ (some (.int (bndW y))) (mk I J)) : mj_Met Ω l false mX6_bounded d 0 0 [.long y] (mk I J) Φ := by
  refine inX6_bounded hd y I J ?_
  rw [bndW_eq] at h
  have e1 : (0 < lg_cmp y 1000000) = (1000000 < y.toInt) := by
    unfold lg_cmp
    have l1 : (1000000 : Int64).toInt = 1000000 := rfl
    by_cases q : y > 1000000
    · rw [if_pos q]; rw [gt_iff_lt, Int64.lt_iff_toInt_lt, l1] at q; simp [q]
    · rw [if_neg q]; rw [gt_iff_lt, Int64.lt_iff_toInt_lt, l1] at q
      split <;> simp <;> omega
  have e2 : (lg_cmp y (-1000000) < 0) = (y.toInt < -1000000) := by
    unfold lg_cmp
    have l1 : (-1000000 : Int64).toInt = -1000000 := rfl
    by_cases q : y > -1000000
    · rw [if_pos q]; rw [gt_iff_lt, Int64.lt_iff_toInt_lt, l1] at q; simp; omega
    · rw [if_neg q]; rw [gt_iff_lt, Int64.lt_iff_toInt_lt, l1] at q
      by_cases z : y = -1000000
      · rw [if_pos z]; rw [← Int64.toInt_inj, l1] at z; simp; omega
      · rw [if_neg z]; rw [← Int64.toInt_inj, l1] at z; simp; omega
  simp only [e1, e2]
  unfold bnd at h
  split
  · rename_i q; rw [if_pos q] at h; exact h
  · rename_i q
    rw [if_neg q] at h
    split
    · rename_i q2; rw [if_pos q2] at h; exact h
    · rename_i q2; rw [if_neg q2] at h
      exact h
theorem sdX6_bounded : mj_Sd mX6_bounded 1 tX6_bounded := by
  intro Ω l d hd as M Φ h
  unfold tX6_bounded at h
  split at h
  · rename_i y
    obtain ⟨hM, h⟩ := h
    rw [mj_isk_of hM]
    exact mnX6_bounded hd y _ _ (by
      rw [mj_isk_of hM] at h
      exact h)
  · exact h.elim
def csX6_join : List (Nat × Nat × Nat × mj_PT) := []
theorem csX6_join_ok : mj_Cs mX6_join 1 csX6_join := mj_Cs0
def cutX6_join : List (Nat × List Bool) := []
set_option maxRecDepth 100000 in
set_option maxHeartbeats 4000000 in
theorem inX6_join {Ω : mj_Om} {l : Launch} {d : Nat} {Φ : Option Value → mj_M → Prop} (hd : 1 ≤ d) (x : Int32) (a : Int32) (b : Int32) (I : Nat → Nat → Int32) (J : Nat → Nat → Int64)
    (h : ((if x = (20000 : Int32) then (Φ (some (.long (((a).toInt64) + ((b).toInt64)))) (mk I J)) else (if x = (20001 : Int32) then (Φ (some (.long (((a).toInt64) - ((b).toInt64)))) (mk I J)) else (if x = (20002 : Int32) then (Φ (some (.long (((a).toInt64) * ((b).toInt64)))) (mk I J)) else (if x = (20003 : Int32) then (if b = (0 : Int32) then (Φ (some (.long (0 : Int64))) (mk I J)) else (mj_gd (!decide (b = 0)) (Φ (some (.long (((a / b)).toInt64))) (mk I J)))) else (if x = (20004 : Int32) then (if a = b then (Φ (some (.long (1 : Int64))) (mk I J)) else (Φ (some (.long (0 : Int64))) (mk I J))) else (if x = (20005 : Int32) then (if a < b then (Φ (some (.long (1 : Int64))) (mk I J)) else (Φ (some (.long (0 : Int64))) (mk I J))) else (if x = (20006 : Int32) then (if b < a then (Φ (some (.long (1 : Int64))) (mk I J)) else (Φ (some (.long (0 : Int64))) (mk I J))) else (if x = (20007 : Int32) then (Φ (some (.long (((a &&& b)).toInt64))) (mk I J)) else (Φ (some (.long (((a ||| b)).toInt64))) (mk I J)))))))))))) :
    mj_Met Ω l false mX6_join d 0 0 [.int x, .int a, .int b] (mk I J) Φ := mj_entry (by decide) rfl (fun h => (by cases h)) (Nat.le_of_ble_eq_true rfl) (mj_blk (μ := mX6_join) (P := pX6_join) (cut := cutX6_join) (cs := csX6_join) dX6_join csX6_join_ok hd 61 0 _ h)
def tX6_join : mj_PT := fun as M Φ => match as with
  | [.int x, .int a, .int b] => ((mj_isk M) ∧ ((hidP (jnP x a b)) ∧ Φ (some (.long (jnW x a b))) M))
  | _ => False
theorem mnX6_join {Ω : mj_Om} {l : Launch} {d : Nat} {Φ : Option Value → mj_M → Prop} (hd : 1 ≤ d) (x : Int32) (a : Int32) (b : Int32) (I : Nat → Nat → Int32) (J : Nat → Nat → Int64) (hp : hidP (jnP x a b)) (h : Φ (some (.long (jnW x a b))) (mk I J)) : mj_Met Ω l false mX6_join d 0 0 [.int x, .int a, .int b] (mk I J) Φ := by
  refine inX6_join hd x a b I J ?_
  rw [jnW_eq] at h
  rw [hidP_eq] at hp
  obtain ⟨hx, ha, hb, hab⟩ := hp
  unfold i6 at ha hb
  have h' : ∀ r : Int64, r = Int64.ofInt (jnI x.toInt a.toInt b.toInt) → Φ (some (.long r)) (mk I J) := fun r hr => hr ▸ h
  have c0 : (x = 20000) = (x.toInt = 20000) := by rw [← Int32.toInt_inj]; rfl
  have c1 : (x = 20001) = (x.toInt = 20001) := by rw [← Int32.toInt_inj]; rfl
  have c2 : (x = 20002) = (x.toInt = 20002) := by rw [← Int32.toInt_inj]; rfl
  have c3 : (x = 20003) = (x.toInt = 20003) := by rw [← Int32.toInt_inj]; rfl
  have c4 : (x = 20004) = (x.toInt = 20004) := by rw [← Int32.toInt_inj]; rfl
  have c5 : (x = 20005) = (x.toInt = 20005) := by rw [← Int32.toInt_inj]; rfl
  have c6 : (x = 20006) = (x.toInt = 20006) := by rw [← Int32.toInt_inj]; rfl
  have c7 : (x = 20007) = (x.toInt = 20007) := by rw [← Int32.toInt_inj]; rfl
  simp only [c0, c1, c2, c3, c4, c5, c6, c7]
  unfold jnI at h'
  split
  · rename_i q; refine h' _ ?_; rw [if_pos q, Int64.ofInt_add, Int64.ofInt_int32ToInt, Int64.ofInt_int32ToInt]
  rename_i p0
  rw [if_neg p0] at h'
  split
  · rename_i q; refine h' _ ?_; rw [if_pos q, Int64.ofInt_sub, Int64.ofInt_int32ToInt, Int64.ofInt_int32ToInt]
  rename_i p1
  rw [if_neg p1] at h'
  split
  · rename_i q; refine h' _ ?_; rw [if_pos q, Int64.ofInt_mul, Int64.ofInt_int32ToInt, Int64.ofInt_int32ToInt]
  rename_i p2
  rw [if_neg p2] at h'
  split
  · rename_i q
    rw [if_pos q] at h'
    split
    · rename_i z; refine h' _ ?_; rw [if_pos (by rw [z]; rfl)]; rfl
    · rename_i z
      simp only [z, decide_false, Bool.not_false, gd_true]
      refine h' _ ?_
      rw [if_neg (fun w : b.toInt = 0 => z (Int32.toInt_inj.mp w)), ← Int64.ofInt_int32ToInt]
      congr 1
      rw [Int32.toInt_div]
      have t1 := Int.natAbs_tdiv_le_natAbs a.toInt b.toInt
      exact Int.bmod_eq_of_le (by omega) (by omega)
  rename_i p3
  rw [if_neg p3] at h'
  split
  · rename_i q
    rw [if_pos q] at h'
    split
    · rename_i z; refine h' _ ?_; rw [if_pos (by rw [z])]; rfl
    · rename_i z; refine h' _ ?_; rw [if_neg (fun w => z (Int32.toInt_inj.mp w))]; rfl
  rename_i p4
  rw [if_neg p4] at h'
  split
  · rename_i q
    rw [if_pos q] at h'
    split
    · rename_i z; refine h' _ ?_; rw [if_pos (Int32.lt_iff_toInt_lt.mp z)]; rfl
    · rename_i z; refine h' _ ?_; rw [if_neg (fun w => z (Int32.lt_iff_toInt_lt.mpr w))]; rfl
  rename_i p5
  rw [if_neg p5] at h'
  split
  · rename_i q
    rw [if_pos q] at h'
    split
    · rename_i z; refine h' _ ?_; rw [if_pos (Int32.lt_iff_toInt_lt.mp z)]; rfl
    · rename_i z; refine h' _ ?_; rw [if_neg (fun w => z (Int32.lt_iff_toInt_lt.mpr w))]; rfl
  rename_i p6
  rw [if_neg p6] at h'
  have hh := hab (by omega)
  have ea : a = 0 ∨ a = 1 := by
    rcases hh.1 with w | w
    · exact Or.inl (Int32.toInt_inj.mp w)
    · exact Or.inr (Int32.toInt_inj.mp w)
  have eb : b = 0 ∨ b = 1 := by
    rcases hh.2 with w | w
    · exact Or.inl (Int32.toInt_inj.mp w)
    · exact Or.inr (Int32.toInt_inj.mp w)
  split
  · rename_i q
    rw [if_pos q] at h'
    refine h' _ ?_
    rcases ea with rfl | rfl <;> rcases eb with rfl | rfl <;> decide
  · rename_i q
    rw [if_neg q] at h'
    refine h' _ ?_
    rcases ea with rfl | rfl <;> rcases eb with rfl | rfl <;> decide
theorem sdX6_join : mj_Sd mX6_join 1 tX6_join := by
  intro Ω l d hd as M Φ h
  unfold tX6_join at h
  split at h
  · rename_i x a b
    obtain ⟨hM, hp, h⟩ := h
    rw [mj_isk_of hM]
    exact mnX6_join hd x a b _ _ hp (by
      rw [mj_isk_of hM] at h
      exact h)
  · exact h.elim
theorem getD_l {xs ys : List Int32} {j : Nat} (h : j < xs.length) : (xs ++ ys).getD j 0 = xs.getD j 0 := by
  simp [List.getD_eq_getElem?_getD, List.getElem?_append_left h]
theorem getD_r {xs ys : List Int32} {j : Nat} : (xs ++ ys).getD (xs.length + j) 0 = ys.getD j 0 := by
  simp [List.getD_eq_getElem?_getD, List.getElem?_append_right]
theorem exC_1 {L : Nat → Int32} (hL : letB L) {xs : List Int32} {k : Bool} (h : tyL xs [] = some [k]) : exC L xs [] = [valC L xs] ∧ i6 (valC L xs) := by
  have := stK_ex hL (st := []) h trivial
  unfold valC
  match he : exC L xs [] with
  | [] => rw [he] at this; exact this.elim
  | [a] => rw [he] at this; exact ⟨rfl, this.1⟩
  | a :: b :: r => rw [he] at this; exact this.2.2.elim
theorem worthL_6 {L : Nat → Int32} (hL : letB L) : ∀ {r : List (List Int32 × List Int32)}, (∀ q ∈ r, clOk q) → i6 (worthL L r)
  | [], _ => by unfold worthL; exact ⟨by decide, by decide⟩
  | (t, s) :: r, h => by
    unfold worthL
    split
    · exact (exC_1 hL (h (t, s) List.mem_cons_self).2).2
    · exact worthL_6 hL (fun q hq => h q (List.mem_cons_of_mem _ hq))
def csX6_worthOf : List (Nat × Nat × Nat × mj_PT) := [(35, 0, 2, mj_rcv 6 tX6_has), (39, 1, 2, tX6_letterAt), (43, 1, 3, tX6_join), (47, 1, 1, tX6_bounded)]
theorem csX6_worthOf_ok : mj_Cs mX6_worthOf 2 csX6_worthOf := (mj_CsV (D' := 1) (ci := 6) (q := (RX6, TX6, 4)) sdX6_has (Nat.le_of_ble_eq_true rfl) fX6_has rfl rfl iX6_has vX6_has (by decide +kernel) l6_35 (mj_CsS (D' := 1) sdX6_letterAt (Nat.le_of_ble_eq_true rfl) fX6_letterAt sX6_letterAt (by decide +kernel) l6_39 (mj_CsS (D' := 1) sdX6_join (Nat.le_of_ble_eq_true rfl) fX6_join sX6_join (by decide +kernel) l6_43 (mj_CsS (D' := 1) sdX6_bounded (Nat.le_of_ble_eq_true rfl) fX6_bounded sX6_bounded (by decide +kernel) l6_47 mj_Cs0))))
def cutX6_worthOf : List (Nat × List Bool) := [(31, [true, true, true, true, true, true, true, false]), (44, [true, true, true, true, true, true, true, true]), (218, [true, true, true, true, true, true, true, true]), (251, [true, true, true, true, true, true, true, true])]
def pX6_worthOf_0 : List (Nat × Instr × Nat) := [(0, .aload_n 0, 1), (1, .iload_n 1, 1), (2, .invokevirtual 35, 3), (5, .ifCond .ne 5, 3), (8, .iconst 0, 1), (9, .ireturn, 1), (10, .aload_n 0, 1), (11, .getfield 15, 3), (14, .iload_n 1, 1), (15, .aaload, 1), (16, .astore_n 3, 1), (17, .aload_n 0, 1), (18, .getfield 18, 3), (21, .iload_n 1, 1), (22, .iaload, 1), (23, .istore 4, 2), (25, .iconst 0, 1), (26, .istore 5, 2), (28, .iconst 0, 1), (29, .istore 6, 2), (31, .iload 6, 2)]
set_option maxRecDepth 100000 in
theorem dX6_worthOf_0 : mj_pd cX6_worthOf pX6_worthOf_0 := mj_pdB (by decide +kernel)
set_option maxRecDepth 100000 in
set_option maxHeartbeats 4000000 in
theorem inX6_worthOf {Ω : mj_Om} {l : Launch} {d : Nat} {Φ : Option Value → mj_M → Prop} (hd : 2 ≤ d) (k : Nat) (hk : isK k) (I : Nat → Nat → Int32) (J : Nat → Nat → Int64)
    (h : ((if (nI k) < (0 : Int32) then (Φ (some (.int (0 : Int32))) (mk I J)) else (if (nI k) < (I 3 3) then (mj_gd (mj_inB (nI k) 4) (mj_gd (mj_inB (nI k) 4) (mj_G Ω l false mX6_worthOf d 0 0 Φ 0 0 31 ([some (.ref 3), some (.int (nI k)), some (.ref 76), some (.ref (k + 5)), some (.int (I 9 ((nI k)).toNatClampNeg)), some (.int (0 : Int32)), some (.int (0 : Int32)), none], [], (mk I J))))) else (Φ (some (.int (0 : Int32))) (mk I J)))))) :
    mj_Met Ω l false mX6_worthOf d 0 0 [.ref 3, .int (nI k), .ref 76] (mk I J) Φ := by
  rcases hk with rfl | rfl | rfl | rfl <;> exact mj_entry (by decide) rfl (fun h => (by cases h)) (Nat.le_of_ble_eq_true rfl) (mj_blk (μ := mX6_worthOf) (P := pX6_worthOf_0) (cut := cutX6_worthOf) (cs := csX6_worthOf) dX6_worthOf_0 csX6_worthOf_ok hd 22 0 _ h)
def pX6_worthOf_31 : List (Nat × Instr × Nat) := [(31, .iload 6, 2), (33, .iload 4, 2), (35, .if_icmp .ge 222, 3), (38, .aload_n 3, 1), (39, .iload 6, 2), (41, .iaload, 1), (42, .istore 7, 2), (44, .iload 7, 2), (257, .iconst 0, 1), (258, .ireturn, 1)]
set_option maxRecDepth 100000 in
theorem dX6_worthOf_31 : mj_pd cX6_worthOf pX6_worthOf_31 := mj_pdB (by decide +kernel)
set_option maxRecDepth 100000 in
set_option maxHeartbeats 4000000 in
theorem bX6_worthOf_31 {Ω : mj_Om} {l : Launch} {d : Nat} {Φ : Option Value → mj_M → Prop} (hd : 2 ≤ d) (k : Nat) (hk : isK k) (x1 : Int32) (x4 : Int32) (x5 : Int32) (x6 : Int32) (I : Nat → Nat → Int32) (J : Nat → Nat → Int64)
    (h : ((if x6 < x4 then (mj_gd (mj_inB x6 240) (mj_G Ω l false mX6_worthOf d 0 0 Φ 0 0 44 ([some (.ref 3), some (.int x1), some (.ref 76), some (.ref (k + 5)), some (.int x4), some (.int x5), some (.int x6), some (.int (I (k + 5) (x6).toNatClampNeg))], [], (mk I J)))) else (Φ (some (.int (0 : Int32))) (mk I J))))) :
    mj_G Ω l false mX6_worthOf d 0 0 Φ 0 0 31 ([some (.ref 3), some (.int x1), some (.ref 76), some (.ref (k + 5)), some (.int x4), some (.int x5), some (.int x6), none], [], mk I J) := by
  rcases hk with rfl | rfl | rfl | rfl <;> exact mj_blk (μ := mX6_worthOf) (P := pX6_worthOf_31) (cut := cutX6_worthOf) (cs := csX6_worthOf) dX6_worthOf_31 csX6_worthOf_ok hd 11 31 _ h
def pX6_worthOf_44 : List (Nat × Instr × Nat) := [(44, .iload 7, 2), (46, .sipush 20000, 3), (49, .if_icmp .ge 48, 3), (52, .iload 5, 2), (54, .bipush 64, 2), (56, .if_icmp .lt 5, 3), (59, .iconst 0, 1), (60, .ireturn, 1), (61, .aload_n 0, 1), (62, .getfield 22, 3), (65, .iload 5, 2), (67, .iload 7, 2), (69, .sipush 10000, 3), (72, .if_icmp .ge 8, 3), (75, .iload 7, 2), (77, .goto 13, 3), (80, .aload_n 2, 1), (81, .iload 7, 2), (83, .sipush 10000, 3), (86, .isub, 1), (87, .invokestatic 39, 3), (90, .iastore, 1), (91, .iinc 5 1, 3), (94, .goto 157, 3), (97, .iload 5, 2), (99, .iconst 1, 1), (100, .if_icmp .lt 11, 3), (103, .iload 7, 2), (105, .sipush 20010, 3), (108, .if_icmp .ne 23, 3), (111, .iload 5, 2), (113, .iconst 1, 1), (114, .if_icmp .ge 7, 3), (117, .iconst 0, 1), (118, .goto 12, 3), (121, .aload_n 0, 1), (122, .getfield 22, 3), (125, .iload 5, 2), (127, .iconst 1, 1), (128, .isub, 1), (129, .iaload, 1), (130, .ireturn, 1), (131, .iload 7, 2), (133, .sipush 20009, 3), (136, .if_icmp .ne 26, 3), (139, .aload_n 0, 1), (140, .getfield 22, 3), (143, .iload 5, 2), (145, .iconst 1, 1), (146, .isub, 1), (147, .iconst 1, 1), (148, .aload_n 0, 1), (149, .getfield 22, 3), (152, .iload 5, 2), (154, .iconst 1, 1), (155, .isub, 1), (156, .iaload, 1), (157, .isub, 1), (158, .iastore, 1), (159, .goto 92, 3), (162, .iload 7, 2), (164, .sipush 30000, 3), (167, .if_icmp .lt 40, 3), (170, .iinc 5 (-1), 3), (173, .aload_n 0, 1), (174, .getfield 22, 3), (177, .iload 5, 2), (179, .iaload, 1), (180, .ifCond .ne 71, 3), (183, .iload 7, 2), (185, .sipush 30000, 3), (188, .isub, 1), (189, .iload 6, 2), (191, .if_icmp .le 60, 3), (194, .iload 7, 2), (196, .sipush 30000, 3), (199, .isub, 1), (200, .iconst 1, 1), (201, .isub, 1), (202, .istore 6, 2), (204, .goto 47, 3), (207, .iload 5, 2), (209, .iconst 2, 1), (210, .if_icmp .ge 5, 3), (213, .iconst 0, 1), (214, .ireturn, 1), (215, .iinc 5 (-1), 3), (218, .aload_n 0, 1), (251, .iinc 6 1, 3)]
set_option maxRecDepth 100000 in
theorem dX6_worthOf_44 : mj_pd cX6_worthOf pX6_worthOf_44 := mj_pdB (by decide +kernel)
set_option maxRecDepth 100000 in
set_option maxHeartbeats 4000000 in
theorem bX6_worthOf_44 {Ω : mj_Om} {l : Launch} {d : Nat} {Φ : Option Value → mj_M → Prop} (hd : 2 ≤ d) (k : Nat) (hk : isK k) (x1 : Int32) (x4 : Int32) (x5 : Int32) (x6 : Int32) (x7 : Int32) (I : Nat → Nat → Int32) (J : Nat → Nat → Int64)
    (h : ((if x7 < ((Int16.ofInt 20000).toInt32) then (if x5 < (64 : Int32) then (if x7 < ((Int16.ofInt 10000).toInt32) then (mj_gd (mj_inB x5 64) (mj_G Ω l false mX6_worthOf d 0 0 Φ 0 0 251 ([some (.ref 3), some (.int x1), some (.ref 76), some (.ref (k + 5)), some (.int x4), some (.int (x5 + (1 : Int32))), some (.int x6), some (.int x7)], [], (mk (mj_ui I 10 (x5).toNatClampNeg x7) J)))) else (if (x7 - ((Int16.ofInt 10000).toInt32)) < (0 : Int32) then (mj_gd (mj_inB x5 64) (mj_G Ω l false mX6_worthOf d 0 0 Φ 0 0 251 ([some (.ref 3), some (.int x1), some (.ref 76), some (.ref (k + 5)), some (.int x4), some (.int (x5 + (1 : Int32))), some (.int x6), some (.int x7)], [], (mk (mj_ui I 10 (x5).toNatClampNeg (0 : Int32)) J)))) else (if (x7 - ((Int16.ofInt 10000).toInt32)) < (7 : Int32) then (mj_gd (mj_inB (x7 - ((Int16.ofInt 10000).toInt32)) 7) (mj_gd (mj_inB x5 64) (mj_G Ω l false mX6_worthOf d 0 0 Φ 0 0 251 ([some (.ref 3), some (.int x1), some (.ref 76), some (.ref (k + 5)), some (.int x4), some (.int (x5 + (1 : Int32))), some (.int x6), some (.int x7)], [], (mk (mj_ui I 10 (x5).toNatClampNeg (I 76 ((x7 - ((Int16.ofInt 10000).toInt32))).toNatClampNeg)) J))))) else (mj_gd (mj_inB x5 64) (mj_G Ω l false mX6_worthOf d 0 0 Φ 0 0 251 ([some (.ref 3), some (.int x1), some (.ref 76), some (.ref (k + 5)), some (.int x4), some (.int (x5 + (1 : Int32))), some (.int x6), some (.int x7)], [], (mk (mj_ui I 10 (x5).toNatClampNeg (0 : Int32)) J))))))) else (Φ (some (.int (0 : Int32))) (mk I J))) else (if x5 < (1 : Int32) then (if x5 < (1 : Int32) then (Φ (some (.int (0 : Int32))) (mk I J)) else (mj_gd (mj_inB (x5 - (1 : Int32)) 64) (Φ (some (.int (I 10 ((x5 - (1 : Int32))).toNatClampNeg))) (mk I J)))) else (if x7 = ((Int16.ofInt 20010).toInt32) then (if x5 < (1 : Int32) then (Φ (some (.int (0 : Int32))) (mk I J)) else (mj_gd (mj_inB (x5 - (1 : Int32)) 64) (Φ (some (.int (I 10 ((x5 - (1 : Int32))).toNatClampNeg))) (mk I J)))) else (if x7 = ((Int16.ofInt 20009).toInt32) then (mj_gd (mj_inB (x5 - (1 : Int32)) 64) (mj_gd (mj_inB (x5 - (1 : Int32)) 64) (mj_G Ω l false mX6_worthOf d 0 0 Φ 0 0 251 ([some (.ref 3), some (.int x1), some (.ref 76), some (.ref (k + 5)), some (.int x4), some (.int x5), some (.int x6), some (.int x7)], [], (mk (mj_ui I 10 ((x5 - (1 : Int32))).toNatClampNeg ((1 : Int32) - (I 10 ((x5 - (1 : Int32))).toNatClampNeg))) J))))) else (if x7 < ((Int16.ofInt 30000).toInt32) then (if x5 < (2 : Int32) then (Φ (some (.int (0 : Int32))) (mk I J)) else (mj_G Ω l false mX6_worthOf d 0 0 Φ 0 0 218 ([some (.ref 3), some (.int x1), some (.ref 76), some (.ref (k + 5)), some (.int x4), some (.int (x5 + (-1 : Int32))), some (.int x6), some (.int x7)], [], (mk I J)))) else (mj_gd (mj_inB (x5 + (-1 : Int32)) 64) (if (I 10 ((x5 + (-1 : Int32))).toNatClampNeg) = (0 : Int32) then (if x6 < (x7 - ((Int16.ofInt 30000).toInt32)) then (mj_G Ω l false mX6_worthOf d 0 0 Φ 0 0 251 ([some (.ref 3), some (.int x1), some (.ref 76), some (.ref (k + 5)), some (.int x4), some (.int (x5 + (-1 : Int32))), some (.int ((x7 - ((Int16.ofInt 30000).toInt32)) - (1 : Int32))), some (.int x7)], [], (mk I J))) else (mj_G Ω l false mX6_worthOf d 0 0 Φ 0 0 251 ([some (.ref 3), some (.int x1), some (.ref 76), some (.ref (k + 5)), some (.int x4), some (.int (x5 + (-1 : Int32))), some (.int x6), some (.int x7)], [], (mk I J)))) else (mj_G Ω l false mX6_worthOf d 0 0 Φ 0 0 251 ([some (.ref 3), some (.int x1), some (.ref 76), some (.ref (k + 5)), some (.int x4), some (.int (x5 + (-1 : Int32))), some (.int x6), some (.int x7)], [], (mk I J)))))))))))) :
    mj_G Ω l false mX6_worthOf d 0 0 Φ 0 0 44 ([some (.ref 3), some (.int x1), some (.ref 76), some (.ref (k + 5)), some (.int x4), some (.int x5), some (.int x6), some (.int x7)], [], mk I J) := by
  rcases hk with rfl | rfl | rfl | rfl <;> exact mj_blk (μ := mX6_worthOf) (P := pX6_worthOf_44) (cut := cutX6_worthOf) (cs := csX6_worthOf) dX6_worthOf_44 csX6_worthOf_ok hd 90 44 _ h
def pX6_worthOf_218 : List (Nat × Instr × Nat) := [(218, .aload_n 0, 1), (219, .getfield 22, 3), (222, .iload 5, 2), (224, .iconst 1, 1), (225, .isub, 1), (226, .iload 7, 2), (228, .aload_n 0, 1), (229, .getfield 22, 3), (232, .iload 5, 2), (234, .iconst 1, 1), (235, .isub, 1), (236, .iaload, 1), (237, .aload_n 0, 1), (238, .getfield 22, 3), (241, .iload 5, 2), (243, .iaload, 1), (244, .invokestatic 43, 3), (247, .invokestatic 47, 3), (250, .iastore, 1), (251, .iinc 6 1, 3)]
set_option maxRecDepth 100000 in
theorem dX6_worthOf_218 : mj_pd cX6_worthOf pX6_worthOf_218 := mj_pdB (by decide +kernel)
set_option maxRecDepth 100000 in
set_option maxHeartbeats 4000000 in
theorem bX6_worthOf_218 {Ω : mj_Om} {l : Launch} {d : Nat} {Φ : Option Value → mj_M → Prop} (hd : 2 ≤ d) (k : Nat) (hk : isK k) (x1 : Int32) (x4 : Int32) (x5 : Int32) (x6 : Int32) (x7 : Int32) (I : Nat → Nat → Int32) (J : Nat → Nat → Int64)
    (h : ((mj_gd (mj_inB (x5 - (1 : Int32)) 64) (mj_gd (mj_inB x5 64) ((mj_isk (mk I J)) ∧ ((hidP (jnP x7 (I 10 ((x5 - (1 : Int32))).toNatClampNeg) (I 10 (x5).toNatClampNeg))) ∧ ((mj_isk (mk I J)) ∧ (mj_gd (mj_inB (x5 - (1 : Int32)) 64) (mj_G Ω l false mX6_worthOf d 0 0 Φ 0 0 251 ([some (.ref 3), some (.int x1), some (.ref 76), some (.ref (k + 5)), some (.int x4), some (.int x5), some (.int x6), some (.int x7)], [], (mk (mj_ui I 10 ((x5 - (1 : Int32))).toNatClampNeg (bndW (jnW x7 (I 10 ((x5 - (1 : Int32))).toNatClampNeg) (I 10 (x5).toNatClampNeg)))) J))))))))))) :
    mj_G Ω l false mX6_worthOf d 0 0 Φ 0 0 218 ([some (.ref 3), some (.int x1), some (.ref 76), some (.ref (k + 5)), some (.int x4), some (.int x5), some (.int x6), some (.int x7)], [], mk I J) := by
  rcases hk with rfl | rfl | rfl | rfl <;> exact mj_blk (μ := mX6_worthOf) (P := pX6_worthOf_218) (cut := cutX6_worthOf) (cs := csX6_worthOf) dX6_worthOf_218 csX6_worthOf_ok hd 21 218 _ h
def pX6_worthOf_251 : List (Nat × Instr × Nat) := [(31, .iload 6, 2), (251, .iinc 6 1, 3), (254, .goto (-223), 3)]
set_option maxRecDepth 100000 in
theorem dX6_worthOf_251 : mj_pd cX6_worthOf pX6_worthOf_251 := mj_pdB (by decide +kernel)
set_option maxRecDepth 100000 in
set_option maxHeartbeats 4000000 in
theorem bX6_worthOf_251 {Ω : mj_Om} {l : Launch} {d : Nat} {Φ : Option Value → mj_M → Prop} (hd : 2 ≤ d) (k : Nat) (hk : isK k) (x1 : Int32) (x4 : Int32) (x5 : Int32) (x6 : Int32) (x7 : Int32) (I : Nat → Nat → Int32) (J : Nat → Nat → Int64)
    (h : ((mj_G Ω l false mX6_worthOf d 0 0 Φ 0 0 31 ([some (.ref 3), some (.int x1), some (.ref 76), some (.ref (k + 5)), some (.int x4), some (.int x5), some (.int (x6 + (1 : Int32))), none], [], (mk I J))))) :
    mj_G Ω l false mX6_worthOf d 0 0 Φ 0 0 251 ([some (.ref 3), some (.int x1), some (.ref 76), some (.ref (k + 5)), some (.int x4), some (.int x5), some (.int x6), some (.int x7)], [], mk I J) := by
  rcases hk with rfl | rfl | rfl | rfl <;> exact mj_blk (μ := mX6_worthOf) (P := pX6_worthOf_251) (cut := cutX6_worthOf) (cs := csX6_worthOf) dX6_worthOf_251 csX6_worthOf_ok hd 4 251 _ h
def tX6_worthOf : mj_PT := fun as M Φ => match as with
  | [.ref this, .int k_, .ref q_] => ((this = 3 ∧ q_ = 76 ∧ mj_isk M) ∧ (∃ k : Nat, k_ = nI k ∧ isK k ∧ (∃ n : Nat, (∃ R : RF, ((RuC M.2.2.1 n R ∧ k < n ∧ letB (lv7 (M.2.2.1 76))) ∧ (∀ I1 : Nat → Nat → Int32, (fr (fun c _ => c = 10) M.2.2.1 I1) → Φ (some (.int (R (nI k) (lv7 (M.2.2.1 76))))) (M.1, M.2.1, I1, M.2.2.2)))))))
  | _ => False
theorem mnX6_worthOf {Ω : mj_Om} {l : Launch} {d : Nat} {Φ : Option Value → mj_M → Prop} (hd : 2 ≤ d) (k : Nat) (hk : isK k) (n : Nat) (R : RF) (I : Nat → Nat → Int32) (J : Nat → Nat → Int64) (hp : RuC I n R ∧ k < n ∧ letB (lv7 (I 76))) (h : ∀ I1 : Nat → Nat → Int32, (fr (fun c _ => c = 10) I I1) → Φ (some (.int (R (nI k) (lv7 (I 76))))) (mk I1 J)) : mj_Met Ω l false mX6_worthOf d 0 0 [.ref 3, .int (nI k), .ref 76] (mk I J) Φ := by
  refine inX6_worthOf hd k hk I J ?_
  obtain ⟨⟨K, ⟨h33, hn4, hK⟩, rfl⟩, hkn, hL⟩ := hp
  obtain ⟨g1, g2, g3, g4⟩ := hK k hkn
  have hk4 := isK_lt hk
  try simp only [s16i]
  rw [if_neg (by rw [Int32.lt_iff_toInt_lt, jn_toInt (by omega), i_0]; omega), h33, if_pos (by rw [jn_lt (by omega) (by omega)]; exact hkn)]
  simp (disch := omega) only [jn_in, jn_cl, gd_dec]
  rw [g3]
  have hR : rfK n K (nI k) (lv7 (I 76)) = Int32.ofInt (worthL (lv7 (I 76)) (K k)) := by
    unfold rfK
    rw [if_pos ⟨by rw [Int32.le_iff_toInt_le, jn_toInt (by omega), i_0]; omega, by rw [jn_lt (by omega) (by omega)]; exact hkn⟩, jn_cl (by omega)]
  rw [hR] at h
  clear hR
  generalize hLL : lv7 (I 76) = L at *
  generalize hN : (flatK 0 (K k)).length = N at *
  generalize hc : flatK 0 (K k) = code at *
  have i2 : (20000 : Int32).toInt = 20000 := rfl
  have i1 : (10000 : Int32).toInt = 10000 := rfl
  have i3 : (30000 : Int32).toInt = 30000 := rfl
  have i4 : (20010 : Int32).toInt = 20010 := rfl
  have i9 : (20009 : Int32).toInt = 20009 := rfl
  have i7 : (7 : Int32).toInt = 7 := rfl
  have pc : ∀ (I' : Nat → Nat → Int32) (a : Nat), fr (fun c _ => c = 10) I I' → a < N → I' (k + 5) a = code.getD a 0 := by
    intro I' a hfr ha
    rw [hfr (k + 5) a (by (try dsimp only); omega), Nat.add_comm k 5]
    exact g4 a ha
  have at44 : ∀ (a t : Nat) (I' : Nat → Nat → Int32), a < N → fr (fun c _ => c = 10) I I' → mj_G Ω l false mX6_worthOf d 0 0 Φ 0 0 44 ([some (.ref 3), some (.int (nI k)), some (.ref 76), some (.ref (k + 5)), some (.int (nI N)), some (.int (nI t)), some (.int (nI a)), some (.int (code.getD a 0))], [], mk I' J) → mj_G Ω l false mX6_worthOf d 0 0 Φ 0 0 31 ([some (.ref 3), some (.int (nI k)), some (.ref 76), some (.ref (k + 5)), some (.int (nI N)), some (.int (nI t)), some (.int (nI a)), none], [], mk I' J) := by
    intro a t I' ha hfr hg
    refine bX6_worthOf_31 hd k hk (nI k) (nI N) (nI t) (nI a) I' J ?_
    try simp only [s16i]
    simp (disch := omega) only [jn_lt, if_pos, jn_in, jn_cl, gd_dec, pc I' a hfr ha]
    exact hg
  have run : ∀ (xs : List Int32) (a : Nat) (st : List Int) (ks ks2 : List Bool) (I' : Nat → Nat → Int32), fr (fun c _ => c = 10) I I' → a + xs.length ≤ N → (∀ j, j < xs.length → code.getD (a + j) 0 = xs.getD j 0) → tyL xs ks = some ks2 → ks.length ≤ 30 → stK ks st → pil I' 10 st → (∀ I2, fr (fun c _ => c = 10) I I2 → pil I2 10 (exC L xs st) → mj_G Ω l false mX6_worthOf d 0 0 Φ 0 0 31 ([some (.ref 3), some (.int (nI k)), some (.ref 76), some (.ref (k + 5)), some (.int (nI N)), some (.int (nI (exC L xs st).length)), some (.int (nI (a + xs.length))), none], [], mk I2 J)) → mj_G Ω l false mX6_worthOf d 0 0 Φ 0 0 31 ([some (.ref 3), some (.int (nI k)), some (.ref 76), some (.ref (k + 5)), some (.int (nI N)), some (.int (nI st.length)), some (.int (nI a)), none], [], mk I' J) := by
    intro xs
    induction xs with
    | nil => intro a st ks ks2 I' hfr _ _ _ _ _ hpl hg; exact hg I' hfr hpl
    | cons x xs ih =>
      intro a st ks ks2 I' hfr hN2 hcd hty hk30 hst hpl hg
      simp only [List.length_cons] at hN2
      obtain ⟨k3, hk3, hty⟩ := tyL_c hty
      refine at44 a st.length I' (by omega) hfr ?_
      have hx : code.getD a 0 = x := hcd 0 (by simp)
      rw [hx]
      have hlen := stK_len hst
      have hst30 : st.length ≤ 30 := by omega
      have nxt : ∀ I2 : Nat → Nat → Int32, fr (fun c _ => c = 10) I I2 → pil I2 10 (stC L x st) → mj_G Ω l false mX6_worthOf d 0 0 Φ 0 0 251 ([some (.ref 3), some (.int (nI k)), some (.ref 76), some (.ref (k + 5)), some (.int (nI N)), some (.int (nI (stC L x st).length)), some (.int (nI a)), some (.int x)], [], mk I2 J) := by
        intro I2 hfr2 hp2
        refine bX6_worthOf_251 hd k hk (nI k) (nI N) (nI (stC L x st).length) (nI a) x I2 J ?_
        rw [jn_succ]
        refine ih (a + 1) (stC L x st) k3 ks2 I2 hfr2 (by omega) (fun j hj => ?_) hty (tyS_len hk3 hk30) (stK_st hL hk3 hst) hp2 (fun I3 hf3 hp3 => ?_)
        · have := hcd (j + 1) (by simp; omega)
          rw [show a + 1 + j = a + (j + 1) by omega, this]
          simp
        · have := hg I3 hf3 hp3
          simp only [List.length_cons] at this
          rw [show a + 1 + xs.length = a + (xs.length + 1) by omega]
          exact this
      refine bX6_worthOf_44 hd k hk (nI k) (nI N) (nI st.length) (nI a) x I' J ?_
      try simp only [s16a, s16b, s16c, s16d, s16e, s16f, s16g, s16h, s16i]
      rcases tyS_c hk3 with ⟨h1, h2, h3, rfl⟩ | ⟨h1, r, rfl, rfl⟩ | ⟨h1, h2, r, kk, k2, rfl, rfl, h3, h4⟩
      · rw [if_pos (by rw [Int32.lt_iff_toInt_lt, i2]; omega), if_pos (show nI st.length < (64 : Int32) by rw [show (64 : Int32) = nI 64 from rfl, jn_lt (by omega) (by omega)]; omega)]
        simp (disch := omega) only [jn_succ, jn_in, jn_cl, gd_dec]
        by_cases q : x.toInt < 10000
        · rw [if_pos (by rw [Int32.lt_iff_toInt_lt, i1]; exact q)]
          have e : stC L x st = x.toInt :: st := by unfold stC; rw [if_pos q]
          rw [e] at nxt
          exact nxt _ (fr_ui hfr rfl) ⟨by rw [ui_s, Int32.ofInt_toInt], pil_up hpl (Nat.le_refl _)⟩
        · have e : stC L x st = (L (x.toInt - 10000).toNat).toInt :: st := by unfold stC; rw [if_neg q, if_pos (by omega)]
          rw [e] at nxt
          have es : (x - 10000).toInt = x.toInt - 10000 := by rw [i_sub (by omega)]; rfl
          have ec : (x - 10000).toNatClampNeg = (x.toInt - 10000).toNat := by rw [Int32.toNatClampNeg, es]
          rw [if_neg (by rw [Int32.lt_iff_toInt_lt, i1]; exact q), if_neg (by rw [Int32.lt_iff_toInt_lt, es, i_0]; omega), if_pos (by rw [Int32.lt_iff_toInt_lt, es, i7]; omega), ec]
          have hin : mj_inB (x - 10000) 7 = true := by
            rw [mj_inB, ec]
            simp only [Bool.and_eq_true, decide_eq_true_eq]
            exact ⟨by rw [Int32.le_iff_toInt_le, es, i_0]; omega, by omega⟩
          simp (disch := omega) only [hin, gd_true, jn_in, jn_cl, gd_dec]
          refine nxt _ (fr_ui hfr rfl) ⟨?_, pil_up hpl (Nat.le_refl _)⟩
          rw [ui_s, Int32.ofInt_toInt, hfr 76 _ (by (try dsimp only); omega), ← hLL, lv7_at (by omega)]
      · match st, hst, hpl, hlen, hst30, nxt with
        | a0 :: s, hst, hpl, hlen, hst30, nxt =>
          have e : stC L x (a0 :: s) = (1 - a0) :: s := by unfold stC; rw [if_neg (by omega), if_neg (by omega)]; simp only; rw [if_pos h1]
          rw [e] at nxt
          simp only [List.length_cons] at hlen hst30 ⊢
          have es : nI (s.length + 1) - 1 = nI s.length := jn_sub (a := s.length + 1) (b := 1) (by omega)
          rw [if_neg (by rw [Int32.lt_iff_toInt_lt, i2]; omega), if_neg (show ¬ nI (s.length + 1) < (1 : Int32) by rw [show (1 : Int32) = nI 1 from rfl, jn_lt (by omega) (by omega)]; omega), if_neg (by rw [← Int32.toInt_inj, i4]; omega), if_pos (by rw [← Int32.toInt_inj, i9]; omega)]
          simp only [List.length_cons, es]
          simp (disch := omega) only [jn_in, jn_cl, gd_dec]
          refine nxt _ (fr_ui hfr rfl) ⟨?_, pil_up hpl.2 (Nat.le_refl _)⟩
          rw [ui_s, hpl.1]
          rcases hst.2.1 rfl with q | q <;> subst q <;> decide
      · match st, hst, hpl, hlen, hst30, nxt with
        | a0 :: b0 :: s, hst, hpl, hlen, hst30, nxt =>
          have e : stC L x (a0 :: b0 :: s) = bnd (jnI x.toInt b0 a0) :: s := by unfold stC; rw [if_neg (by omega), if_neg (by omega)]; simp only; rw [if_neg (by omega)]
          rw [e] at nxt
          simp only [List.length_cons] at hlen hst30 hpl ⊢
          have es : nI (s.length + 1 + 1) + -1 = nI (s.length + 1) := by
            rw [show nI (s.length + 1 + 1) + -1 = nI (s.length + 1 + 1) - 1 from (Int32.sub_eq_add_neg _ _).symm]
            exact jn_sub (a := s.length + 1 + 1) (b := 1) (by omega)
          have es2 : nI (s.length + 1) - 1 = nI s.length := jn_sub (a := s.length + 1) (b := 1) (by omega)
          rw [if_neg (by rw [Int32.lt_iff_toInt_lt, i2]; omega), if_neg (show ¬ nI (s.length + 1 + 1) < (1 : Int32) by rw [show (1 : Int32) = nI 1 from rfl, jn_lt (by omega) (by omega)]; omega), if_neg (by rw [← Int32.toInt_inj, i4]; omega), if_neg (by rw [← Int32.toInt_inj, i9]; omega), if_pos (by rw [Int32.lt_iff_toInt_lt, i3]; omega)]
          rw [if_neg (show ¬ nI (s.length + 1 + 1) < (2 : Int32) by rw [show (2 : Int32) = nI 2 from rfl, jn_lt (by omega) (by omega)]; omega), es]
          refine bX6_worthOf_218 hd k hk (nI k) (nI N) (nI (s.length + 1)) (nI a) x I' J ?_
          try simp only [s16a, s16b, s16c, s16d, s16e, s16f, s16g, s16h, s16i]
          simp only [es2]
          simp (disch := omega) only [jn_in, jn_cl, gd_dec]
          have ha0 := hst.1
          have hb0 := hst.2.2.1
          rw [show I' 10 (s.length + 1) = Int32.ofInt a0 from hpl.1, hpl.2.1, bndW_eq, jnW_eq, oI ha0, oI hb0]
          rw [hidP_eq]
          refine ⟨mj_isk_mk _ _, ⟨⟨h1, h2⟩, by rw [oI hb0]; exact hb0, by rw [oI ha0]; exact ha0, fun z => ?_⟩, mj_isk_mk _ _, nxt _ (fr_ui hfr rfl) ⟨?_, pil_up hpl.2.2 (Nat.le_refl _)⟩⟩
          · rw [oI ha0, oI hb0]
            exact ⟨hst.2.2.2.1 (h3.mpr z), hst.2.1 (h3.mpr z)⟩
          · have hj := jnI_bd (x := x.toInt) hb0 ha0
            rw [ui_s, Int64.toInt_ofInt_of_le (by omega) (by omega)]
  have sumRun : ∀ (s : List Int32) (a : Nat) (I' : Nat → Nat → Int32), tyL s [] = some [false] → fr (fun c _ => c = 10) I I' → a + s.length + 1 ≤ N → (∀ j, j < s.length + 1 → code.getD (a + j) 0 = (s ++ [20010]).getD j 0) → (∀ I1, fr (fun c _ => c = 10) I I1 → Φ (some (.int (Int32.ofInt (valC L s)))) (mk I1 J)) → mj_G Ω l false mX6_worthOf d 0 0 Φ 0 0 31 ([some (.ref 3), some (.int (nI k)), some (.ref 76), some (.ref (k + 5)), some (.int (nI N)), some (.int (nI 0)), some (.int (nI a)), none], [], mk I' J) := by
    intro s a I' hty hfr hN2 hcd hend
    refine run s a [] [] [false] I' hfr (by omega) (fun j hj => by rw [hcd j (by omega), getD_l hj]) hty (by decide) trivial trivial (fun I2 hf2 hp2 => ?_)
    rw [(exC_1 hL hty).1] at hp2 ⊢
    refine at44 (a + s.length) 1 I2 (by omega) hf2 ?_
    have hx : code.getD (a + s.length) 0 = 20010 := by
      rw [hcd s.length (by omega)]
      have := getD_r (xs := s) (ys := [20010]) (j := 0)
      simpa using this
    rw [hx]
    refine bX6_worthOf_44 hd k hk (nI k) (nI N) (nI 1) (nI (a + s.length)) 20010 I2 J ?_
    try simp only [s16a, s16b, s16c, s16d, s16e, s16f, s16g, s16h, s16i]
    rw [if_neg (by decide), if_neg (by decide), if_pos (by trivial), if_neg (by decide)]
    have es : nI 1 - 1 = nI 0 := rfl
    rw [es]
    simp (disch := omega) only [jn_in, jn_cl, gd_dec]
    have := hend I2 hf2
    rw [← hp2.1] at this
    exact this
  have clause : ∀ (r : List (List Int32 × List Int32)) (o : Nat) (I' : Nat → Nat → Int32), fr (fun c _ => c = 10) I I' → (∀ q ∈ r, clOk q) → o + (flatK o r).length = N → (∀ j, j < (flatK o r).length → code.getD (o + j) 0 = (flatK o r).getD j 0) → (∀ I1, fr (fun c _ => c = 10) I I1 → Φ (some (.int (Int32.ofInt (worthL L r)))) (mk I1 J)) → mj_G Ω l false mX6_worthOf d 0 0 Φ 0 0 31 ([some (.ref 3), some (.int (nI k)), some (.ref 76), some (.ref (k + 5)), some (.int (nI N)), some (.int (nI 0)), some (.int (nI o)), none], [], mk I' J) := by
    intro r
    induction r with
    | nil =>
      intro o I' hfr _ hN2 _ hend
      simp only [flatK, List.length_nil, Nat.add_zero] at hN2
      refine bX6_worthOf_31 hd k hk (nI k) (nI N) (nI 0) (nI o) I' J ?_
      try simp only [s16i]
      rw [if_neg (by rw [jn_lt (by omega) (by omega)]; omega)]
      exact hend I' hfr
    | cons q r ih =>
      intro o I' hfr hq hN2 hcd hend
      obtain ⟨t, s⟩ := q
      have hts := hq (t, s) List.mem_cons_self
      unfold flatK at hN2 hcd
      rw [List.length_append] at hN2 hcd
      have hcb : ∀ j, j < (blkC o t s).length → code.getD (o + j) 0 = (blkC o t s).getD j 0 := fun j hj => by rw [hcd j (by omega), getD_l hj]
      by_cases ht : t = []
      · have e : blkC o t s = s ++ [20010] := by unfold blkC; rw [if_pos ht]
        rw [e] at hcb hN2
        simp only [List.length_append, List.length_cons, List.length_nil] at hcb hN2
        refine sumRun s o I' hts.2 hfr (by omega) hcb (fun I1 h1 => ?_)
        have := hend I1 h1
        unfold worthL at this
        rwa [if_pos (Or.inl ht)] at this
      · have e : blkC o t s = t ++ (nI (30000 + (o + t.length + s.length + 2)) :: (s ++ [20010])) := by unfold blkC; rw [if_neg ht]
        have el : (blkC o t s).length = t.length + s.length + 2 := by rw [e]; simp; omega
        have hty : tyL t [] = some [true] := hts.1.resolve_left ht
        rw [e] at hcb
        have hcb2 : ∀ j, j < t.length + s.length + 2 → code.getD (o + j) 0 = (t ++ (nI (30000 + (o + t.length + s.length + 2)) :: (s ++ [20010]))).getD j 0 := fun j hj => hcb j (by simp; omega)
        refine run t o [] [] [true] I' hfr (by omega) (fun j hj => by rw [hcb2 j (by omega), getD_l hj]) hty (by decide) trivial trivial (fun I2 hf2 hp2 => ?_)
        rw [(exC_1 hL hty).1] at hp2 ⊢
        refine at44 (o + t.length) 1 I2 (by omega) hf2 ?_
        have hx : code.getD (o + t.length) 0 = nI (30000 + (o + t.length + s.length + 2)) := by
          rw [hcb2 t.length (by omega)]
          have := getD_r (xs := t) (ys := nI (30000 + (o + t.length + s.length + 2)) :: (s ++ [20010])) (j := 0)
          simpa using this
        rw [hx]
        refine bX6_worthOf_44 hd k hk (nI k) (nI N) (nI 1) (nI (o + t.length)) (nI (30000 + (o + t.length + s.length + 2))) I2 J ?_
        try simp only [s16a, s16b, s16c, s16d, s16e, s16f, s16g, s16h, s16i]
        have hxi : (nI (30000 + (o + t.length + s.length + 2))).toInt = 30000 + (o + t.length + s.length + 2 : Nat) := by rw [jn_toInt (by omega)]; omega
        rw [if_neg (by rw [Int32.lt_iff_toInt_lt, i2, hxi]; omega), if_neg (by decide), if_neg (by rw [← Int32.toInt_inj, i4, hxi]; omega), if_neg (by rw [← Int32.toInt_inj, i9, hxi]; omega), if_neg (by rw [Int32.lt_iff_toInt_lt, i3, hxi]; omega)]
        have e1 : nI 1 + -1 = nI 0 := rfl
        have e2 : nI (30000 + (o + t.length + s.length + 2)) - 30000 = nI (o + t.length + s.length + 2) := by
          rw [show (30000 : Int32) = nI 30000 from rfl, jn_sub (by omega), Nat.add_sub_cancel_left]
        have e3 : nI (o + t.length + s.length + 2) - 1 = nI (o + t.length + s.length + 1) := jn_sub (a := o + t.length + s.length + 2) (b := 1) (by omega)
        simp only [e1, e2, e3]
        simp (disch := omega) only [jn_in, jn_cl, gd_dec, jn_lt]
        rw [show I2 10 0 = Int32.ofInt (valC L t) from hp2.1]
        have h6 := (exC_1 hL hty).2
        have hz : (Int32.ofInt (valC L t) = 0) = (valC L t = 0) := by
          rw [← Int32.toInt_inj, oI h6]; rfl
        simp only [hz]
        by_cases hv : valC L t = 0
        · rw [if_pos hv, if_pos (by omega)]
          refine bX6_worthOf_251 hd k hk (nI k) (nI N) (nI 0) (nI (o + t.length + s.length + 1)) _ I2 J ?_
          rw [jn_succ]
          have eo : o + (blkC o t s).length = o + t.length + s.length + 1 + 1 := by omega
          rw [← eo]
          refine ih (o + (blkC o t s).length) I2 hf2 (fun q hq2 => hq q (List.mem_cons_of_mem _ hq2)) (by omega) (fun j hj => ?_) (fun I1 h1 => ?_)
          · have := hcd ((blkC o t s).length + j) (by omega)
            rw [getD_r] at this
            rw [← this]
            congr 1
            omega
          · have := hend I1 h1
            unfold worthL at this
            rwa [if_neg (by simp [ht, hv])] at this
        · rw [if_neg hv]
          refine bX6_worthOf_251 hd k hk (nI k) (nI N) (nI 0) (nI (o + t.length)) _ I2 J ?_
          rw [jn_succ]
          refine sumRun s (o + t.length + 1) I2 hts.2 hf2 (by omega) (fun j hj => ?_) (fun I1 h1 => ?_)
          · have := hcb2 (t.length + (j + 1)) (by omega)
            rw [getD_r] at this
            rw [show o + t.length + 1 + j = o + (t.length + (j + 1)) by omega, this]
            simp
          · have := hend I1 h1
            unfold worthL at this
            rwa [if_pos (Or.inr hv)] at this
  have hfin := clause (K k) 0 I fr_rf g1 (by rw [hc, hN]; omega) (fun j hj => by rw [hc] at hj ⊢; rw [Nat.zero_add]) (fun I1 h1 => h I1 h1)
  exact hfin
theorem sdX6_worthOf : mj_Sd mX6_worthOf 2 tX6_worthOf := by
  intro Ω l d hd as M Φ h
  unfold tX6_worthOf at h
  split at h
  · rename_i z_this k_ z_q
    obtain ⟨⟨rfl, rfl, hM⟩, k, rfl, hk, n, R, hp, h⟩ := h
    rw [mj_isk_of hM]
    exact mnX6_worthOf hd k hk n R _ _ hp (by
      rw [mj_isk_of hM] at h
      exact h)
  · exact h.elim
