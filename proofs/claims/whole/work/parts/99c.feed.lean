/-! ===== feed on both sides (by program, wip/whole/p100.py) ===== -/
def shF : Nat → Int32
  | 0 => 24
  | 1 => 16
  | 2 => 8
  | 3 => 0
  | _ => -8
def byt (w : Int32) (j : Nat) : Int32 := (w.toUInt32 >>> ((shF j).toUInt32 &&& Int32.toUInt32 31)).toInt32 &&& 255
def zc (x : Int32) : Nat := if x = 0 then 0 else 1
def zs (w : Int32) : Nat → Nat
  | 0 => 0
  | i + 1 => zs w i + zc (byt w i)
theorem zc_le (x : Int32) : zc x ≤ 1 := by unfold zc; split <;> omega
theorem zs_le (w : Int32) : ∀ i, zs w i ≤ i
  | 0 => Nat.le_refl 0
  | i + 1 => by have := zs_le w i; have := zc_le (byt w i); unfold zs; omega
theorem zs_mo (w : Int32) {i j : Nat} (h : i ≤ j) : zs w i ≤ zs w j := by
  induction h with
  | refl => exact Nat.le_refl _
  | step _ ih => exact Nat.le_trans ih (Nat.le_add_right _ _)
theorem shF_c {i : Nat} (h : i < 4) : ¬ shF i < 0 ∧ shF i + (-8) = shF (i + 1) := by
  have : i = 0 ∨ i = 1 ∨ i = 2 ∨ i = 3 := by omega
  rcases this with rfl | rfl | rfl | rfl <;> exact ⟨by decide, by decide⟩
theorem and255 (x : Int32) : 0 ≤ (x &&& 255).toInt ∧ (x &&& 255).toInt ≤ 255 := by
  have e : (x &&& 255).toBitVec.toNat ≤ 255 := by
    rw [Int32.toBitVec_and, BitVec.toNat_and]
    exact Nat.and_le_right
  have : (x &&& 255).toInt = ((x &&& 255).toBitVec.toNat : Int) := by
    show (x &&& 255).toBitVec.toInt = _
    rw [BitVec.toInt_eq_toNat_cond, if_pos (by omega)]
  omega
theorem byt_r (w : Int32) (j : Nat) : 0 ≤ (byt w j).toInt ∧ (byt w j).toInt ≤ 255 := and255 _
theorem byt_M (w : Int32) {j : Nat} (h : j < 4) : (w >>> (shF j &&& 31)) &&& 255 = byt w j := by
  unfold byt
  have key : ∀ (v : BitVec 32) (s : Nat), s ≤ 24 → (v.sshiftRight s) &&& 255#32 = (v >>> s) &&& 255#32 := fun v s hs => by
    refine BitVec.eq_of_getLsbD_eq (fun i hi => ?_)
    rw [BitVec.getLsbD_and, BitVec.getLsbD_and, BitVec.getLsbD_sshiftRight, BitVec.getLsbD_ushiftRight]
    by_cases q : i < 8
    · rw [decide_eq_false (by omega : ¬ 32 ≤ i), if_pos (by omega)]; rfl
    · have : (255#32).getLsbD i = false := by
        rw [show (255#32) = BitVec.ofNat 32 (2 ^ 8 - 1) from rfl, BitVec.getLsbD_ofNat, Nat.testBit_two_pow_sub_one, decide_eq_false q, Bool.and_false]
      rw [this, Bool.and_false, Bool.and_false]
  have : j = 0 ∨ j = 1 ∨ j = 2 ∨ j = 3 := by omega
  rcases this with rfl | rfl | rfl | rfl
  · exact Int32.toBitVec_inj.mp (key w.toBitVec 24 (by decide))
  · exact Int32.toBitVec_inj.mp (key w.toBitVec 16 (by decide))
  · exact Int32.toBitVec_inj.mp (key w.toBitVec 8 (by decide))
  · exact Int32.toBitVec_inj.mp (key w.toBitVec 0 (by decide))
/-- a sign put behind -/
def apS (x : Int32) (p : (Nat → Int32) × Nat) : (Nat → Int32) × Nat := if x = 0 then p else (fun k => if k = p.2 then x else p.1 k, p.2 + 1)
def apW (w : Int32) : Nat → (Nat → Int32) × Nat → (Nat → Int32) × Nat
  | 0, p => p
  | i + 1, p => apS (byt w i) (apW w i p)
theorem apS_n (x : Int32) (p : (Nat → Int32) × Nat) : (apS x p).2 = p.2 + zc x := by unfold apS zc; split <;> rfl
theorem apW_n (w : Int32) (p : (Nat → Int32) × Nat) : ∀ i, (apW w i p).2 = p.2 + zs w i
  | 0 => rfl
  | i + 1 => by unfold apW zs; rw [apS_n, apW_n w p i]; omega
theorem ui_cr {I : Nat → Nat → Int32} {c c' k : Nat} {x : Int32} (h : ¬ c' = c) : mj_ui I c k x c' = I c' := by
  funext j
  exact ui_c h
theorem ui_row {I : Nat → Nat → Int32} {c k : Nat} {x : Int32} : mj_ui I c k x c = fun j => if j = k then x else I c j := by
  funext j
  simp [mj_ui]
def csX8_bytesOf : List (Nat × Nat × Nat × mj_PT) := []
theorem csX8_bytesOf_ok : mj_Cs mX8_bytesOf 1 csX8_bytesOf := mj_Cs0
def cutX8_bytesOf : List (Nat × List Bool) := [(5, [true, true, true])]
set_option maxRecDepth 100000 in
set_option maxHeartbeats 4000000 in
theorem inX8_bytesOf {Ω : mj_Om} {l : Launch} {d : Nat} {Φ : Option Value → mj_M → Prop} (hd : 1 ≤ d) (x : Int32) (I : Nat → Nat → Int32) (J : Nat → Nat → Int64)
    (h : ((mj_G Ω l false mX8_bytesOf d 0 0 Φ 0 0 5 ([some (.int x), some (.int (0 : Int32)), some (.int (24 : Int32))], [], (mk I J))))) :
    mj_Met Ω l false mX8_bytesOf d 0 0 [.int x] (mk I J) Φ := mj_entry (by decide) rfl (fun h => (by cases h)) (Nat.le_of_ble_eq_true rfl) (mj_blk (μ := mX8_bytesOf) (P := pX8_bytesOf) (cut := cutX8_bytesOf) (cs := csX8_bytesOf) dX8_bytesOf csX8_bytesOf_ok hd 18 0 _ h)
set_option maxRecDepth 100000 in
set_option maxHeartbeats 4000000 in
theorem bX8_bytesOf_5 {Ω : mj_Om} {l : Launch} {d : Nat} {Φ : Option Value → mj_M → Prop} (hd : 1 ≤ d) (x0 : Int32) (x1 : Int32) (x2 : Int32) (I : Nat → Nat → Int32) (J : Nat → Nat → Int64)
    (h : ((if x2 < (0 : Int32) then (Φ (some (.int x1)) (mk I J)) else (if ((((x0).toUInt32 >>> ((x2).toUInt32 &&& Int32.toUInt32 31)).toInt32) &&& (255 : Int32)) = (0 : Int32) then (mj_G Ω l false mX8_bytesOf d 0 0 Φ 0 0 5 ([some (.int x0), some (.int x1), some (.int (x2 + (-8 : Int32)))], [], (mk I J))) else (mj_G Ω l false mX8_bytesOf d 0 0 Φ 0 0 5 ([some (.int x0), some (.int (x1 + (1 : Int32))), some (.int (x2 + (-8 : Int32)))], [], (mk I J))))))) :
    mj_G Ω l false mX8_bytesOf d 0 0 Φ 0 0 5 ([some (.int x0), some (.int x1), some (.int x2)], [], mk I J) := mj_blk (μ := mX8_bytesOf) (P := pX8_bytesOf) (cut := cutX8_bytesOf) (cs := csX8_bytesOf) dX8_bytesOf csX8_bytesOf_ok hd 18 5 _ h
def tX8_bytesOf : mj_PT := fun as M Φ => match as with
  | [.int x] => ((mj_isk M) ∧ Φ (some (.int (nI (zs x 4)))) M)
  | _ => False
theorem mnX8_bytesOf {Ω : mj_Om} {l : Launch} {d : Nat} {Φ : Option Value → mj_M → Prop} (hd : 1 ≤ d) (x : Int32) (I : Nat → Nat → Int32) (J : Nat → Nat → Int64) (h : Φ (some (.int (nI (zs x 4)))) (mk I J)) : mj_Met Ω l false mX8_bytesOf d 0 0 [.int x] (mk I J) Φ := by
  refine inX8_bytesOf hd x I J ?_
  refine lp_inv (σ := Nat) (n := 4) (G := fun i s => mj_G Ω l false mX8_bytesOf d 0 0 Φ 0 0 5 ([some (.int x), some (.int (nI s)), some (.int (shF i))], [], mk I J)) (fun i s => s = zs x i) (fun i s hi hI hk => ?_) (fun s hI => ?_) 4 0 0 (by omega) rfl
  · refine bX8_bytesOf_5 hd x (nI s) (shF i) I J ?_
    obtain ⟨e1, e2⟩ := shF_c hi
    have := zs_le x i
    rw [if_neg e1, e2]
    have z : zs x (i + 1) = zs x i + zc (byt x i) := rfl
    unfold zc at z
    by_cases q : byt x i = 0
    · rw [if_pos q] at z
      rw [show ((x.toUInt32 >>> ((shF i).toUInt32 &&& Int32.toUInt32 31)).toInt32 &&& 255) = byt x i from rfl, if_pos q]
      exact hk s (by omega)
    · rw [if_neg q] at z
      rw [show ((x.toUInt32 >>> ((shF i).toUInt32 &&& Int32.toUInt32 31)).toInt32 &&& 255) = byt x i from rfl, if_neg q, jn_succ]
      exact hk (s + 1) (by omega)
  · refine bX8_bytesOf_5 hd x (nI s) (shF 4) I J ?_
    rw [if_pos (by decide), hI]
    exact h
theorem sdX8_bytesOf : mj_Sd mX8_bytesOf 1 tX8_bytesOf := by
  intro Ω l d hd as M Φ h
  unfold tX8_bytesOf at h
  split at h
  · rename_i x
    obtain ⟨hM, h⟩ := h
    rw [mj_isk_of hM]
    exact mnX8_bytesOf hd x _ _ (by
      rw [mj_isk_of hM] at h
      exact h)
  · exact h.elim
def csX8_append : List (Nat × Nat × Nat × mj_PT) := []
theorem csX8_append_ok : mj_Cs mX8_append 1 csX8_append := mj_Cs0
def cutX8_append : List (Nat × List Bool) := [(3, [true, true, true, false])]
set_option maxRecDepth 100000 in
set_option maxHeartbeats 4000000 in
theorem inX8_append {Ω : mj_Om} {l : Launch} {d : Nat} {Φ : Option Value → mj_M → Prop} (hd : 1 ≤ d) (x : Int32) (I : Nat → Nat → Int32) (J : Nat → Nat → Int64)
    (h : ((mj_G Ω l false mX8_append d 0 0 Φ 0 0 3 ([some (.ref 1), some (.int x), some (.int (24 : Int32)), none], [], (mk I J))))) :
    mj_Met Ω l false mX8_append d 0 0 [.ref 1, .int x] (mk I J) Φ := mj_entry (by decide) rfl (fun h => (by cases h)) (Nat.le_of_ble_eq_true rfl) (mj_blk (μ := mX8_append) (P := pX8_append) (cut := cutX8_append) (cs := csX8_append) dX8_append csX8_append_ok hd 32 0 _ h)
set_option maxRecDepth 100000 in
set_option maxHeartbeats 4000000 in
theorem bX8_append_3 {Ω : mj_Om} {l : Launch} {d : Nat} {Φ : Option Value → mj_M → Prop} (hd : 1 ≤ d) (x1 : Int32) (x2 : Int32) (I : Nat → Nat → Int32) (J : Nat → Nat → Int64)
    (h : ((if x2 < (0 : Int32) then (Φ none (mk I J)) else (if ((((x1).toUInt32 >>> ((x2).toUInt32 &&& Int32.toUInt32 31)).toInt32) &&& (255 : Int32)) = (0 : Int32) then (mj_G Ω l false mX8_append d 0 0 Φ 0 0 3 ([some (.ref 1), some (.int x1), some (.int (x2 + (-8 : Int32))), none], [], (mk I J))) else (if (I 1 1) < (240 : Int32) then (mj_gd (mj_inB (I 1 1) 240) (mj_G Ω l false mX8_append d 0 0 Φ 0 0 3 ([some (.ref 1), some (.int x1), some (.int (x2 + (-8 : Int32))), none], [], (mk (mj_ui (mj_ui I 2 ((I 1 1)).toNatClampNeg ((((x1).toUInt32 >>> ((x2).toUInt32 &&& Int32.toUInt32 31)).toInt32) &&& (255 : Int32))) 1 1 ((I 1 1) + (1 : Int32))) J)))) else (mj_G Ω l false mX8_append d 0 0 Φ 0 0 3 ([some (.ref 1), some (.int x1), some (.int (x2 + (-8 : Int32))), none], [], (mk I J)))))))) :
    mj_G Ω l false mX8_append d 0 0 Φ 0 0 3 ([some (.ref 1), some (.int x1), some (.int x2), none], [], mk I J) := mj_blk (μ := mX8_append) (P := pX8_append) (cut := cutX8_append) (cs := csX8_append) dX8_append csX8_append_ok hd 32 3 _ h
def tX8_append : mj_PT := fun as M Φ => match as with
  | [.ref this, .int x] => ((this = 1 ∧ mj_isk M) ∧ (∃ t : Nat, ((M.2.2.1 1 1 = nI t ∧ t + zs x 4 ≤ 240) ∧ (∀ I1 : Nat → Nat → Int32, (I1 1 1 = nI (apW x 4 (M.2.2.1 2, t)).2 ∧ I1 2 = (apW x 4 (M.2.2.1 2, t)).1 ∧ fr (fun c k => c = 2 ∨ (c = 1 ∧ k = 1)) M.2.2.1 I1) → Φ none (M.1, M.2.1, I1, M.2.2.2)))))
  | _ => False
theorem mnX8_append {Ω : mj_Om} {l : Launch} {d : Nat} {Φ : Option Value → mj_M → Prop} (hd : 1 ≤ d) (x : Int32) (t : Nat) (I : Nat → Nat → Int32) (J : Nat → Nat → Int64) (hp : I 1 1 = nI t ∧ t + zs x 4 ≤ 240) (h : ∀ I1 : Nat → Nat → Int32, (I1 1 1 = nI (apW x 4 (I 2, t)).2 ∧ I1 2 = (apW x 4 (I 2, t)).1 ∧ fr (fun c k => c = 2 ∨ (c = 1 ∧ k = 1)) I I1) → Φ none (mk I1 J)) : mj_Met Ω l false mX8_append d 0 0 [.ref 1, .int x] (mk I J) Φ := by
  refine inX8_append hd x I J ?_
  obtain ⟨ht, hl⟩ := hp
  refine lp_inv (σ := Nat → Nat → Int32) (n := 4) (G := fun i I' => mj_G Ω l false mX8_append d 0 0 Φ 0 0 3 ([some (.ref 1), some (.int x), some (.int (shF i)), none], [], mk I' J)) (fun i I' => I' 1 1 = nI (apW x i (I 2, t)).2 ∧ I' 2 = (apW x i (I 2, t)).1 ∧ fr (fun c k => c = 2 ∨ (c = 1 ∧ k = 1)) I I') (fun i I' hi hI hk => ?_) (fun I' hI => ?_) 4 0 I (by omega) ⟨ht, rfl, fr_rf⟩
  · refine bX8_append_3 hd x (shF i) I' J ?_
    obtain ⟨h1, h2, h3⟩ := hI
    obtain ⟨e1, e2⟩ := shF_c hi
    have z : zs x (i + 1) = zs x i + zc (byt x i) := rfl
    have z4 : zs x (i + 1) ≤ zs x 4 := zs_mo x (by omega)
    have en := apW_n x (I 2, t) i
    have ew : apW x (i + 1) (I 2, t) = apS (byt x i) (apW x i (I 2, t)) := rfl
    rw [if_neg e1, e2, show ((x.toUInt32 >>> ((shF i).toUInt32 &&& Int32.toUInt32 31)).toInt32 &&& 255) = byt x i from rfl]
    unfold zc at z
    unfold apS at ew
    generalize apW x i (I 2, t) = p at *
    dsimp only at en
    by_cases q : byt x i = 0
    · rw [if_pos q] at ew ⊢
      exact hk I' ⟨by rw [ew]; exact h1, by rw [ew]; exact h2, h3⟩
    · rw [if_neg q] at ew z ⊢
      rw [h1, if_pos (show nI p.2 < (240 : Int32) from nlt (b := 240) (by omega) (by omega))]
      simp (disch := omega) only [jn_in, jn_cl, gd_dec, jn_succ]
      exact hk _ ⟨by rw [ew]; exact ui_s, by rw [ew, ui_cr (by decide), ui_row, h2], fr_ui (fr_ui h3 (by (try dsimp only); omega)) (by (try dsimp only); omega)⟩
  · refine bX8_append_3 hd x (shF 4) I' J ?_
    rw [if_pos (by decide)]
    exact h I' hI
theorem sdX8_append : mj_Sd mX8_append 1 tX8_append := by
  intro Ω l d hd as M Φ h
  unfold tX8_append at h
  split at h
  · rename_i z_this x
    obtain ⟨⟨rfl, hM⟩, t, hp, h⟩ := h
    rw [mj_isk_of hM]
    exact mnX8_append hd x t _ _ hp (by
      rw [mj_isk_of hM] at h
      exact h)
  · exact h.elim
def pk5 (a b c d e : Int32) (k : Nat) : Int32 := if k < 4 then a else if k < 8 then b else if k < 12 then c else if k < 16 then d else e
def fdB (a b c d e : Int32) (k : Nat) : Int32 := byt (pk5 a b c d e k) (k % 4)
theorem fd_sh : ∀ k, k < 20 → ((24 : Int32) - 8 * (nI k - nI k / 4 * 4)) &&& 31 = shF (k % 4) &&& 31 := by decide +kernel
def csX12_byteOf : List (Nat × Nat × Nat × mj_PT) := []
theorem csX12_byteOf_ok : mj_Cs mX12_byteOf 1 csX12_byteOf := mj_Cs0
def cutX12_byteOf : List (Nat × List Bool) := []
set_option maxRecDepth 100000 in
set_option maxHeartbeats 4000000 in
theorem inX12_byteOf {Ω : mj_Om} {l : Launch} {d : Nat} {Φ : Option Value → mj_M → Prop} (hd : 1 ≤ d) (a : Int32) (b : Int32) (c : Int32) (e : Int32) (f : Int32) (k_ : Int32) (I : Nat → Nat → Int32) (J : Nat → Nat → Int64)
    (h : ((if k_ < (4 : Int32) then (Φ (some (.int ((a >>> (((24 : Int32) - ((8 : Int32) * (k_ - k_ / (4 : Int32) * (4 : Int32)))) &&& 31)) &&& (255 : Int32)))) (mk I J)) else (if k_ < (8 : Int32) then (Φ (some (.int ((b >>> (((24 : Int32) - ((8 : Int32) * (k_ - k_ / (4 : Int32) * (4 : Int32)))) &&& 31)) &&& (255 : Int32)))) (mk I J)) else (if k_ < (12 : Int32) then (Φ (some (.int ((c >>> (((24 : Int32) - ((8 : Int32) * (k_ - k_ / (4 : Int32) * (4 : Int32)))) &&& 31)) &&& (255 : Int32)))) (mk I J)) else (if k_ < (16 : Int32) then (Φ (some (.int ((e >>> (((24 : Int32) - ((8 : Int32) * (k_ - k_ / (4 : Int32) * (4 : Int32)))) &&& 31)) &&& (255 : Int32)))) (mk I J)) else (Φ (some (.int ((f >>> (((24 : Int32) - ((8 : Int32) * (k_ - k_ / (4 : Int32) * (4 : Int32)))) &&& 31)) &&& (255 : Int32)))) (mk I J)))))))) :
    mj_Met Ω l false mX12_byteOf d 0 0 [.int a, .int b, .int c, .int e, .int f, .int k_] (mk I J) Φ := mj_entry (by decide) rfl (fun h => (by cases h)) (Nat.le_of_ble_eq_true rfl) (mj_blk (μ := mX12_byteOf) (P := pX12_byteOf) (cut := cutX12_byteOf) (cs := csX12_byteOf) dX12_byteOf csX12_byteOf_ok hd 35 0 _ h)
def tX12_byteOf : mj_PT := fun as M Φ => match as with
  | [.int a, .int b, .int c, .int e, .int f, .int k_] => ((mj_isk M) ∧ (∃ k : Nat, k_ = nI k ∧ ((k < 20) ∧ Φ (some (.int (fdB a b c e f k))) M)))
  | _ => False
theorem mnX12_byteOf {Ω : mj_Om} {l : Launch} {d : Nat} {Φ : Option Value → mj_M → Prop} (hd : 1 ≤ d) (a : Int32) (b : Int32) (c : Int32) (e : Int32) (f : Int32) (k : Nat) (I : Nat → Nat → Int32) (J : Nat → Nat → Int64) (hp : k < 20) (h : Φ (some (.int (fdB a b c e f k))) (mk I J)) : mj_Met Ω l false mX12_byteOf d 0 0 [.int a, .int b, .int c, .int e, .int f, .int (nI k)] (mk I J) Φ := by
  refine inX12_byteOf hd a b c e f (nI k) I J ?_
  rw [fd_sh k hp, byt_M a (Nat.mod_lt k (by decide)), byt_M b (Nat.mod_lt k (by decide)), byt_M c (Nat.mod_lt k (by decide)), byt_M e (Nat.mod_lt k (by decide)), byt_M f (Nat.mod_lt k (by decide))]
  unfold fdB pk5 at h
  by_cases q1 : k < 4
  · rw [if_pos q1] at h; rw [if_pos (show nI k < (4 : Int32) from nlt (b := 4) q1 (by omega))]; exact h
  rw [if_neg q1] at h; rw [if_neg (show ¬ nI k < (4 : Int32) from nnl (b := 4) (by omega) (by omega))]
  by_cases q2 : k < 8
  · rw [if_pos q2] at h; rw [if_pos (show nI k < (8 : Int32) from nlt (b := 8) q2 (by omega))]; exact h
  rw [if_neg q2] at h; rw [if_neg (show ¬ nI k < (8 : Int32) from nnl (b := 8) (by omega) (by omega))]
  by_cases q3 : k < 12
  · rw [if_pos q3] at h; rw [if_pos (show nI k < (12 : Int32) from nlt (b := 12) q3 (by omega))]; exact h
  rw [if_neg q3] at h; rw [if_neg (show ¬ nI k < (12 : Int32) from nnl (b := 12) (by omega) (by omega))]
  by_cases q4 : k < 16
  · rw [if_pos q4] at h; rw [if_pos (show nI k < (16 : Int32) from nlt (b := 16) q4 (by omega))]; exact h
  rw [if_neg q4] at h; rw [if_neg (show ¬ nI k < (16 : Int32) from nnl (b := 16) (by omega) (by omega))]; exact h
theorem sdX12_byteOf : mj_Sd mX12_byteOf 1 tX12_byteOf := by
  intro Ω l d hd as M Φ h
  unfold tX12_byteOf at h
  split at h
  · rename_i a b c e f k_
    obtain ⟨hM, k, rfl, hp, h⟩ := h
    rw [mj_isk_of hM]
    exact mnX12_byteOf hd a b c e f k _ _ hp (by
      rw [mj_isk_of hM] at h
      exact h)
  · exact h.elim
def apK (a b c d e : Int32) : Nat → (Nat → Int32) × Nat → (Nat → Int32) × Nat
  | 0, p => p
  | k + 1, p => apS (fdB a b c d e k) (apK a b c d e k p)
def zk (a b c d e : Int32) : Nat → Nat
  | 0 => 0
  | k + 1 => zk a b c d e k + zc (fdB a b c d e k)
theorem zk_le (a b c d e : Int32) : ∀ i, zk a b c d e i ≤ i
  | 0 => Nat.le_refl 0
  | i + 1 => by have := zk_le a b c d e i; have := zc_le (fdB a b c d e i); unfold zk; omega
theorem zk_mo (a b c d e : Int32) {i j : Nat} (h : i ≤ j) : zk a b c d e i ≤ zk a b c d e j := by
  induction h with
  | refl => exact Nat.le_refl _
  | step _ ih => exact Nat.le_trans ih (Nat.le_add_right _ _)
theorem apK_n (a b c d e : Int32) (p : (Nat → Int32) × Nat) : ∀ i, (apK a b c d e i p).2 = p.2 + zk a b c d e i
  | 0 => rfl
  | i + 1 => by unfold apK zk; rw [apS_n, apK_n a b c d e p i]; omega
def ap5 (a b c d e : Int32) (p : (Nat → Int32) × Nat) : (Nat → Int32) × Nat := apW e 4 (apW d 4 (apW c 4 (apW b 4 (apW a 4 p))))
theorem ap_eq (a b c d e : Int32) (p : (Nat → Int32) × Nat) : apK a b c d e 20 p = ap5 a b c d e p := rfl
theorem zk_eq (a b c d e : Int32) : zk a b c d e 20 = zs a 4 + zs b 4 + zs c 4 + zs d 4 + zs e 4 := by
  have h := congrArg Prod.snd (ap_eq a b c d e (fun _ => 0, 0))
  unfold ap5 at h
  rw [apK_n, apW_n, apW_n, apW_n, apW_n, apW_n] at h
  omega
def apA (p q : (Nat → Int32) × Nat) : Prop := p.2 = q.2 ∧ ∀ k, k < p.2 → p.1 k = q.1 k ∧ 1 ≤ (p.1 k).toInt ∧ (p.1 k).toInt ≤ 255
theorem apA_S {x : Int32} {p q : (Nat → Int32) × Nat} (hx : 0 ≤ x.toInt ∧ x.toInt ≤ 255) (h : apA p q) : apA (apS x p) (apS x q) := by
  unfold apS
  by_cases z : x = 0
  · rw [if_pos z, if_pos z]; exact h
  · rw [if_neg z, if_neg z]
    obtain ⟨h1, h2⟩ := h
    have x0 : x.toInt ≠ 0 := fun w => z (Int32.toInt_inj.mp w)
    refine ⟨by show p.2 + 1 = q.2 + 1; omega, fun k hk => ?_⟩
    dsimp only at hk ⊢
    by_cases y : k = p.2
    · rw [if_pos y, if_pos (by omega)]; exact ⟨rfl, by omega, hx.2⟩
    · rw [if_neg y, if_neg (by omega)]; exact h2 k (by omega)
theorem apA_W {w : Int32} {p q : (Nat → Int32) × Nat} (h : apA p q) : ∀ i, apA (apW w i p) (apW w i q)
  | 0 => h
  | i + 1 => apA_S (byt_r w i) (apA_W h i)
/-- signs put behind on both -/
theorem Rel_feed {I I1 : Nat → Nat → Int32} {T U : (Nat → Int32) × Nat} (h : Rel I) (ha : apA T U) (hT : T.2 ≤ 240) (e1 : I1 1 1 = nI T.2) (e2 : I1 2 = T.1) (e3 : I1 91 2 = nI U.2) (e4 : I1 92 = U.1) (e : fr (fun c k => c = 2 ∨ (c = 1 ∧ k = 1) ∨ c = 92 ∨ (c = 91 ∧ k = 2)) I I1) : Rel I1 := by
  obtain ⟨-, hK, hW, hA, hI, hP, hR, hg, h25, h26⟩ := h
  refine ⟨⟨T.2, hT, e1, by rw [e3, ha.1], fun k hk => by rw [e2, e4]; exact ha.2 k hk⟩, relK_k hK (fun c k q => e c k (by unfold inK at q; omega)), relW_k hW (fun c k q => e c k (by unfold inW at q; omega)), relA_k hA (fun c k q => e c k (by unfold inA at q; omega)), relI_k hI (fun c k q => e c k (by unfold inI at q; omega)), relP_k hP (fun c k q => e c k (by unfold inP at q; omega)), relR_k hR (fun c k q => e c k (by unfold inR at q; omega)), ?_, ?_, ?_⟩
  · rw [e 0 17 (by omega), e 91 24 (by omega)]; exact hg
  · rw [e 91 25 (by omega)]; exact h25
  · rw [e 91 26 (by omega)]; exact h26
def csX11_feed : List (Nat × Nat × Nat × mj_PT) := [(105, 1, 1, tX8_bytesOf), (113, 0, 2, mj_rcv 8 tX8_append)]
theorem csX11_feed_ok : mj_Cs mX11_feed 2 csX11_feed := (mj_CsS (D' := 1) sdX8_bytesOf (Nat.le_of_ble_eq_true rfl) fX8_bytesOf sX8_bytesOf (by decide +kernel) l11_105 (mj_CsV (D' := 1) (ci := 8) (q := (RX8, TX8, 3)) sdX8_append (Nat.le_of_ble_eq_true rfl) fX8_append rfl rfl iX8_append vX8_append (by decide +kernel) l11_113 mj_Cs0))
def cutX11_feed : List (Nat × List Bool) := []
set_option maxRecDepth 100000 in
set_option maxHeartbeats 4000000 in
theorem inX11_feed {Ω : mj_Om} {l : Launch} {d : Nat} {Φ : Option Value → mj_M → Prop} (hd : 2 ≤ d) (a : Int32) (b : Int32) (c : Int32) (e : Int32) (f : Int32) (I : Nat → Nat → Int32) (J : Nat → Nat → Int64)
    (h : (((mj_isk (mk I J)) ∧ ((mj_isk (mk I J)) ∧ ((mj_isk (mk I J)) ∧ ((mj_isk (mk I J)) ∧ ((mj_isk (mk I J)) ∧ (if (240 : Int32) < ((I 1 1) + (((((nI (zs a 4)) + (nI (zs b 4))) + (nI (zs c 4))) + (nI (zs e 4))) + (nI (zs f 4)))) then (Φ (some (.int (-1 : Int32))) (mk I J)) else ((1 = 1 ∧ mj_isk (mk I J)) ∧ (∃ t3348 : Nat, ((I 1 1 = nI t3348 ∧ t3348 + zs a 4 ≤ 240) ∧ (∀ I3349 : Nat → Nat → Int32, (I3349 1 1 = nI (apW a 4 (I 2, t3348)).2 ∧ I3349 2 = (apW a 4 (I 2, t3348)).1 ∧ fr (fun c k => c = 2 ∨ (c = 1 ∧ k = 1)) I I3349) → ((1 = 1 ∧ mj_isk (mk I3349 J)) ∧ (∃ t3351 : Nat, ((I3349 1 1 = nI t3351 ∧ t3351 + zs b 4 ≤ 240) ∧ (∀ I3352 : Nat → Nat → Int32, (I3352 1 1 = nI (apW b 4 (I3349 2, t3351)).2 ∧ I3352 2 = (apW b 4 (I3349 2, t3351)).1 ∧ fr (fun c k => c = 2 ∨ (c = 1 ∧ k = 1)) I3349 I3352) → ((1 = 1 ∧ mj_isk (mk I3352 J)) ∧ (∃ t3354 : Nat, ((I3352 1 1 = nI t3354 ∧ t3354 + zs c 4 ≤ 240) ∧ (∀ I3355 : Nat → Nat → Int32, (I3355 1 1 = nI (apW c 4 (I3352 2, t3354)).2 ∧ I3355 2 = (apW c 4 (I3352 2, t3354)).1 ∧ fr (fun c k => c = 2 ∨ (c = 1 ∧ k = 1)) I3352 I3355) → ((1 = 1 ∧ mj_isk (mk I3355 J)) ∧ (∃ t3357 : Nat, ((I3355 1 1 = nI t3357 ∧ t3357 + zs e 4 ≤ 240) ∧ (∀ I3358 : Nat → Nat → Int32, (I3358 1 1 = nI (apW e 4 (I3355 2, t3357)).2 ∧ I3358 2 = (apW e 4 (I3355 2, t3357)).1 ∧ fr (fun c k => c = 2 ∨ (c = 1 ∧ k = 1)) I3355 I3358) → ((1 = 1 ∧ mj_isk (mk I3358 J)) ∧ (∃ t3360 : Nat, ((I3358 1 1 = nI t3360 ∧ t3360 + zs f 4 ≤ 240) ∧ (∀ I3361 : Nat → Nat → Int32, (I3361 1 1 = nI (apW f 4 (I3358 2, t3360)).2 ∧ I3361 2 = (apW f 4 (I3358 2, t3360)).1 ∧ fr (fun c k => c = 2 ∨ (c = 1 ∧ k = 1)) I3358 I3361) → (Φ (some (.int (I3361 1 1))) (mk I3361 J)))))))))))))))))))))))))))))) :
    mj_Met Ω l false mX11_feed d 0 0 [.ref 0, .int a, .int b, .int c, .int e, .int f] (mk I J) Φ := mj_entry (by decide) rfl (fun h => (by cases h)) (Nat.le_of_ble_eq_true rfl) (mj_blk (μ := mX11_feed) (P := pX11_feed) (cut := cutX11_feed) (cs := csX11_feed) dX11_feed csX11_feed_ok hd 49 0 _ h)
def csX12_feed : List (Nat × Nat × Nat × mj_PT) := [(102, 1, 6, tX12_byteOf)]
theorem csX12_feed_ok : mj_Cs mX12_feed 2 csX12_feed := (mj_CsS (D' := 1) sdX12_byteOf (Nat.le_of_ble_eq_true rfl) fX12_byteOf sX12_byteOf (by decide +kernel) l12_102 mj_Cs0)
def cutX12_feed : List (Nat × List Bool) := [(6, [true, true, true, true, true, true, true, true, false]), (62, [true, true, true, true, true, true, true, true, false])]
def pX12_feed_0 : List (Nat × Instr × Nat) := [(0, .iconst 0, 1), (1, .istore 6, 2), (3, .iconst 0, 1), (4, .istore 7, 2), (6, .iload 7, 2)]
set_option maxRecDepth 100000 in
theorem dX12_feed_0 : mj_pd cX12_feed pX12_feed_0 := mj_pdB (by decide +kernel)
set_option maxRecDepth 100000 in
set_option maxHeartbeats 4000000 in
theorem inX12_feed {Ω : mj_Om} {l : Launch} {d : Nat} {Φ : Option Value → mj_M → Prop} (hd : 2 ≤ d) (a : Int32) (b : Int32) (c : Int32) (e : Int32) (f : Int32) (I : Nat → Nat → Int32) (J : Nat → Nat → Int64)
    (h : ((mj_G Ω l false mX12_feed d 0 0 Φ 0 0 6 ([some (.ref 91), some (.int a), some (.int b), some (.int c), some (.int e), some (.int f), some (.int (0 : Int32)), some (.int (0 : Int32)), none], [], (mk I J))))) :
    mj_Met Ω l false mX12_feed d 0 0 [.ref 91, .int a, .int b, .int c, .int e, .int f] (mk I J) Φ := mj_entry (by decide) rfl (fun h => (by cases h)) (Nat.le_of_ble_eq_true rfl) (mj_blk (μ := mX12_feed) (P := pX12_feed_0) (cut := cutX12_feed) (cs := csX12_feed) dX12_feed_0 csX12_feed_ok hd 6 0 _ h)
def pX12_feed_6 : List (Nat × Instr × Nat) := [(6, .iload 7, 2), (8, .bipush 20, 2), (10, .if_icmp .ge 34, 3), (13, .iload 6, 2), (15, .iload_n 1, 1), (16, .iload_n 2, 1), (17, .iload_n 3, 1), (18, .iload 4, 2), (20, .iload 5, 2), (22, .iload 7, 2), (24, .invokestatic 102, 3), (27, .ifCond .eq 7, 3), (30, .iconst 1, 1), (31, .goto 4, 3), (34, .iconst 0, 1), (35, .iadd, 1), (36, .istore 6, 2), (38, .iinc 7 1, 3), (41, .goto (-35), 3), (44, .aload_n 0, 1), (45, .getfield 106, 3), (48, .iload 6, 2), (50, .iadd, 1), (51, .sipush 240, 3), (54, .if_icmp .le 5, 3), (57, .iconst (-1), 1), (58, .ireturn, 1), (59, .iconst 0, 1), (60, .istore 7, 2), (62, .iload 7, 2)]
set_option maxRecDepth 100000 in
theorem dX12_feed_6 : mj_pd cX12_feed pX12_feed_6 := mj_pdB (by decide +kernel)
set_option maxRecDepth 100000 in
set_option maxHeartbeats 4000000 in
theorem bX12_feed_6 {Ω : mj_Om} {l : Launch} {d : Nat} {Φ : Option Value → mj_M → Prop} (hd : 2 ≤ d) (x1 : Int32) (x2 : Int32) (x3 : Int32) (x4 : Int32) (x5 : Int32) (x6 : Int32) (x7 : Int32) (I : Nat → Nat → Int32) (J : Nat → Nat → Int64)
    (h : ((if x7 < (20 : Int32) then ((mj_isk (mk I J)) ∧ (∃ k3369 : Nat, x7 = nI k3369 ∧ ((k3369 < 20) ∧ (if (fdB x1 x2 x3 x4 x5 k3369) = (0 : Int32) then (mj_G Ω l false mX12_feed d 0 0 Φ 0 0 6 ([some (.ref 91), some (.int x1), some (.int x2), some (.int x3), some (.int x4), some (.int x5), some (.int (x6 + (0 : Int32))), some (.int (x7 + (1 : Int32))), none], [], (mk I J))) else (mj_G Ω l false mX12_feed d 0 0 Φ 0 0 6 ([some (.ref 91), some (.int x1), some (.int x2), some (.int x3), some (.int x4), some (.int x5), some (.int (x6 + (1 : Int32))), some (.int (x7 + (1 : Int32))), none], [], (mk I J))))))) else (if (240 : Int32) < ((I 91 2) + x6) then (Φ (some (.int (-1 : Int32))) (mk I J)) else (mj_G Ω l false mX12_feed d 0 0 Φ 0 0 62 ([some (.ref 91), some (.int x1), some (.int x2), some (.int x3), some (.int x4), some (.int x5), some (.int x6), some (.int (0 : Int32)), none], [], (mk I J))))))) :
    mj_G Ω l false mX12_feed d 0 0 Φ 0 0 6 ([some (.ref 91), some (.int x1), some (.int x2), some (.int x3), some (.int x4), some (.int x5), some (.int x6), some (.int x7), none], [], mk I J) := mj_blk (μ := mX12_feed) (P := pX12_feed_6) (cut := cutX12_feed) (cs := csX12_feed) dX12_feed_6 csX12_feed_ok hd 31 6 _ h
def pX12_feed_62 : List (Nat × Instr × Nat) := [(62, .iload 7, 2), (64, .bipush 20, 2), (66, .if_icmp .ge 49, 3), (69, .iload_n 1, 1), (70, .iload_n 2, 1), (71, .iload_n 3, 1), (72, .iload 4, 2), (74, .iload 5, 2), (76, .iload 7, 2), (78, .invokestatic 102, 3), (81, .istore 8, 2), (83, .iload 8, 2), (85, .ifCond .eq 24, 3), (88, .aload_n 0, 1), (89, .getfield 9, 3), (92, .aload_n 0, 1), (93, .getfield 106, 3), (96, .iload 8, 2), (98, .iastore, 1), (99, .aload_n 0, 1), (100, .dup, 1), (101, .getfield 106, 3), (104, .iconst 1, 1), (105, .iadd, 1), (106, .putfield 106, 3), (109, .iinc 7 1, 3), (112, .goto (-50), 3), (115, .aload_n 0, 1), (116, .getfield 106, 3), (119, .ireturn, 1)]
set_option maxRecDepth 100000 in
theorem dX12_feed_62 : mj_pd cX12_feed pX12_feed_62 := mj_pdB (by decide +kernel)
set_option maxRecDepth 100000 in
set_option maxHeartbeats 4000000 in
theorem bX12_feed_62 {Ω : mj_Om} {l : Launch} {d : Nat} {Φ : Option Value → mj_M → Prop} (hd : 2 ≤ d) (x1 : Int32) (x2 : Int32) (x3 : Int32) (x4 : Int32) (x5 : Int32) (x6 : Int32) (x7 : Int32) (I : Nat → Nat → Int32) (J : Nat → Nat → Int64)
    (h : ((if x7 < (20 : Int32) then ((mj_isk (mk I J)) ∧ (∃ k3372 : Nat, x7 = nI k3372 ∧ ((k3372 < 20) ∧ (if (fdB x1 x2 x3 x4 x5 k3372) = (0 : Int32) then (mj_G Ω l false mX12_feed d 0 0 Φ 0 0 62 ([some (.ref 91), some (.int x1), some (.int x2), some (.int x3), some (.int x4), some (.int x5), some (.int x6), some (.int (x7 + (1 : Int32))), none], [], (mk I J))) else (mj_gd (mj_inB (I 91 2) 240) (mj_G Ω l false mX12_feed d 0 0 Φ 0 0 62 ([some (.ref 91), some (.int x1), some (.int x2), some (.int x3), some (.int x4), some (.int x5), some (.int x6), some (.int (x7 + (1 : Int32))), none], [], (mk (mj_ui (mj_ui I 92 ((I 91 2)).toNatClampNeg (fdB x1 x2 x3 x4 x5 k3372)) 91 2 ((I 91 2) + (1 : Int32))) J)))))))) else (Φ (some (.int (I 91 2))) (mk I J))))) :
    mj_G Ω l false mX12_feed d 0 0 Φ 0 0 62 ([some (.ref 91), some (.int x1), some (.int x2), some (.int x3), some (.int x4), some (.int x5), some (.int x6), some (.int x7), none], [], mk I J) := mj_blk (μ := mX12_feed) (P := pX12_feed_62) (cut := cutX12_feed) (cs := csX12_feed) dX12_feed_62 csX12_feed_ok hd 31 62 _ h
set_option maxHeartbeats 4000000 in
theorem feed_6 {Ω : mj_Om} {l : Launch} {Φ : Option Value → mj_M → Prop} (a b c e f : Int32) (I : Nat → Nat → Int32) (J : Nat → Nat → Int64) (h : if 240 < I 91 2 + nI (zk a b c e f 20) then Φ (some (.int (-1))) (mk I J) else mj_G Ω l false mX12_feed 60 0 0 Φ 0 0 62 ([some (.ref 91), some (.int a), some (.int b), some (.int c), some (.int e), some (.int f), some (.int (nI (zk a b c e f 20))), some (.int 0), none], [], mk I J)) : mj_G Ω l false mX12_feed 60 0 0 Φ 0 0 6 ([some (.ref 91), some (.int a), some (.int b), some (.int c), some (.int e), some (.int f), some (.int 0), some (.int 0), none], [], mk I J) := by
  refine lp_inv (σ := Nat) (n := 20) (G := fun i s => mj_G Ω l false mX12_feed 60 0 0 Φ 0 0 6 ([some (.ref 91), some (.int a), some (.int b), some (.int c), some (.int e), some (.int f), some (.int (nI s)), some (.int (nI i)), none], [], mk I J)) (fun i s => s = zk a b c e f i) (fun i s hi hI hk => ?_) (fun s hI => ?_) 20 0 0 (by omega) rfl
  · refine bX12_feed_6 (Nat.le_of_ble_eq_true rfl) a b c e f (nI s) (nI i) I J ?_
    have := zk_le a b c e f i
    have z : zk a b c e f (i + 1) = zk a b c e f i + zc (fdB a b c e f i) := rfl
    unfold zc at z
    rw [if_pos (show nI i < (20 : Int32) from nlt (b := 20) hi (by omega)), jn_succ]
    refine ⟨mj_isk_mk _ _, i, rfl, hi, ?_⟩
    by_cases q : fdB a b c e f i = 0
    · rw [if_pos q] at z ⊢
      rw [show nI s + 0 = nI s from jn_add s 0]
      exact hk s (by omega)
    · rw [if_neg q] at z ⊢
      rw [jn_succ]
      exact hk (s + 1) (by omega)
  · refine bX12_feed_6 (Nat.le_of_ble_eq_true rfl) a b c e f (nI s) (nI 20) I J ?_
    rw [if_neg (show ¬ nI 20 < (20 : Int32) from nnl (b := 20) (by omega) (by omega)), hI]
    exact h
set_option maxHeartbeats 4000000 in
theorem feed_62 {Ω : mj_Om} {l : Launch} {Φ : Option Value → mj_M → Prop} {t : Nat} (a b c e f v : Int32) (I : Nat → Nat → Int32) (J : Nat → Nat → Int64) (ht : I 91 2 = nI t) (hl : t + zk a b c e f 20 ≤ 240) (h : ∀ I1, I1 91 2 = nI (apK a b c e f 20 (I 92, t)).2 → I1 92 = (apK a b c e f 20 (I 92, t)).1 → fr (fun c k => c = 92 ∨ (c = 91 ∧ k = 2)) I I1 → Φ (some (.int (I1 91 2))) (mk I1 J)) : mj_G Ω l false mX12_feed 60 0 0 Φ 0 0 62 ([some (.ref 91), some (.int a), some (.int b), some (.int c), some (.int e), some (.int f), some (.int v), some (.int 0), none], [], mk I J) := by
  refine lp_inv (σ := Nat → Nat → Int32) (n := 20) (G := fun i I' => mj_G Ω l false mX12_feed 60 0 0 Φ 0 0 62 ([some (.ref 91), some (.int a), some (.int b), some (.int c), some (.int e), some (.int f), some (.int v), some (.int (nI i)), none], [], mk I' J)) (fun i I' => I' 91 2 = nI (apK a b c e f i (I 92, t)).2 ∧ I' 92 = (apK a b c e f i (I 92, t)).1 ∧ fr (fun c k => c = 92 ∨ (c = 91 ∧ k = 2)) I I') (fun i I' hi hI hk => ?_) (fun I' hI => ?_) 20 0 I (by omega) ⟨ht, rfl, fr_rf⟩
  · refine bX12_feed_62 (Nat.le_of_ble_eq_true rfl) a b c e f v (nI i) I' J ?_
    obtain ⟨h1, h2, h3⟩ := hI
    have z : zk a b c e f (i + 1) = zk a b c e f i + zc (fdB a b c e f i) := rfl
    have z4 : zk a b c e f (i + 1) ≤ zk a b c e f 20 := zk_mo _ _ _ _ _ (by omega)
    have en := apK_n a b c e f (I 92, t) i
    have ew : apK a b c e f (i + 1) (I 92, t) = apS (fdB a b c e f i) (apK a b c e f i (I 92, t)) := rfl
    unfold zc at z
    unfold apS at ew
    generalize apK a b c e f i (I 92, t) = p at *
    dsimp only at en
    rw [if_pos (show nI i < (20 : Int32) from nlt (b := 20) hi (by omega)), jn_succ]
    refine ⟨mj_isk_mk _ _, i, rfl, hi, ?_⟩
    by_cases q : fdB a b c e f i = 0
    · rw [if_pos q] at ew ⊢
      exact hk I' ⟨by rw [ew]; exact h1, by rw [ew]; exact h2, h3⟩
    · rw [if_neg q] at ew z ⊢
      rw [h1]
      simp (disch := omega) only [jn_in, jn_cl, gd_dec, jn_succ]
      exact hk _ ⟨by rw [ew]; exact ui_s, by rw [ew, ui_cr (by decide), ui_row, h2], fr_ui (fr_ui h3 (by (try dsimp only); omega)) (by (try dsimp only); omega)⟩
  · refine bX12_feed_62 (Nat.le_of_ble_eq_true rfl) a b c e f v (nI 20) I' J ?_
    rw [if_neg (show ¬ nI 20 < (20 : Int32) from nnl (b := 20) (by omega) (by omega))]
    exact h I' hI.1 hI.2.1 hI.2.2
set_option maxHeartbeats 4000000 in
theorem two_feed {Ω : mj_Om} {l : Launch} {I : Nat → Nat → Int32} {J : Nat → Nat → Int64} (a b c e f : Int32) (h : Rel I) : Two Ω l mX11_feed mX12_feed [.int a, .int b, .int c, .int e, .int f] I J := by
  obtain ⟨t, t1, t2, t3, t4⟩ := id h.1
  have s1 := zs_le a 4
  have s2 := zs_le b 4
  have s3 := zs_le c 4
  have s4 := zs_le e 4
  have s5 := zs_le f 4
  have zz := zk_eq a b c e f
  refine inX11_feed (Nat.le_of_ble_eq_true rfl) a b c e f I J ?_
  refine ⟨mj_isk_mk _ _, mj_isk_mk _ _, mj_isk_mk _ _, mj_isk_mk _ _, mj_isk_mk _ _, ?_⟩
  rw [t2, jn_add, jn_add, jn_add, jn_add, jn_add, ← zz]
  by_cases q : 240 < t + zk a b c e f 20
  · rw [if_pos (show (240 : Int32) < nI (t + zk a b c e f 20) from nlt (a := 240) q (by omega))]
    refine ⟨_, I, J, rfl, rfl, inX12_feed (Nat.le_of_ble_eq_true rfl) a b c e f I J ?_⟩
    refine feed_6 a b c e f I J ?_
    rw [t3, jn_add, if_pos (show (240 : Int32) < nI (t + zk a b c e f 20) from nlt (a := 240) q (by omega))]
    exact ⟨I, J, rfl, rfl, h⟩
  rw [if_neg (show ¬ (240 : Int32) < nI (t + zk a b c e f 20) from nnl (a := 240) (by omega) (by omega))]
  refine ⟨⟨by trivial, mj_isk_mk _ _⟩, t, ⟨by rfl, by omega⟩, fun A1 k1 => ?_⟩
  have n1 := apW_n a (I 2, t) 4
  refine ⟨⟨by trivial, mj_isk_mk _ _⟩, _, ⟨k1.1, by dsimp only at n1; omega⟩, fun A2 k2 => ?_⟩
  have n2 := apW_n b (A1 2, (apW a 4 (I 2, t)).2) 4
  refine ⟨⟨by trivial, mj_isk_mk _ _⟩, _, ⟨k2.1, by dsimp only at n1 n2; omega⟩, fun A3 k3 => ?_⟩
  have n3 := apW_n c (A2 2, (apW b 4 (A1 2, (apW a 4 (I 2, t)).2)).2) 4
  refine ⟨⟨by trivial, mj_isk_mk _ _⟩, _, ⟨k3.1, by dsimp only at n1 n2 n3; omega⟩, fun A4 k4 => ?_⟩
  have n4 := apW_n e (A3 2, (apW c 4 (A2 2, (apW b 4 (A1 2, (apW a 4 (I 2, t)).2)).2)).2) 4
  refine ⟨⟨by trivial, mj_isk_mk _ _⟩, _, ⟨k4.1, by dsimp only at n1 n2 n3 n4; omega⟩, fun A5 k5 => ?_⟩
  obtain ⟨-, j1, f1⟩ := k1
  obtain ⟨-, j2, f2⟩ := k2
  obtain ⟨-, j3, f3⟩ := k3
  obtain ⟨-, j4, f4⟩ := k4
  obtain ⟨i5, j5, f5⟩ := k5
  rw [j4, j3, j2, j1] at i5 j5
  have F := fr_tr (fr_tr (fr_tr (fr_tr f1 f2) f3) f4) f5
  have i5' : A5 1 1 = nI (ap5 a b c e f (I 2, t)).2 := i5
  have j5' : A5 2 = (ap5 a b c e f (I 2, t)).1 := j5
  have en : (ap5 a b c e f (I 2, t)).2 = t + zk a b c e f 20 := by rw [← ap_eq]; exact apK_n a b c e f (I 2, t) 20
  have al : apA (ap5 a b c e f (I 2, t)) (ap5 a b c e f (I 92, t)) := apA_W (apA_W (apA_W (apA_W (apA_W (show apA (I 2, t) (I 92, t) from ⟨rfl, t4⟩) 4) 4) 4) 4) 4
  have r91 : A5 91 2 = nI t := by rw [F 91 2 (by (try dsimp only); omega)]; exact t3
  have r92 : A5 92 = I 92 := funext (fun k => F 92 k (by (try dsimp only); omega))
  refine ⟨_, A5, J, rfl, rfl, inX12_feed (Nat.le_of_ble_eq_true rfl) a b c e f A5 J ?_⟩
  refine feed_6 a b c e f A5 J ?_
  rw [r91, jn_add, if_neg (show ¬ (240 : Int32) < nI (t + zk a b c e f 20) from nnl (a := 240) (by omega) (by omega))]
  refine feed_62 a b c e f _ A5 J r91 (by omega) (fun B u1 u2 u3 => ?_)
  rw [r92, ap_eq] at u1 u2
  have b11 : B 1 1 = A5 1 1 := u3 1 1 (by (try dsimp only); omega)
  refine ⟨B, J, by rw [u1, i5', al.1], rfl, Rel_feed h al (by omega) (b11.trans i5') ((funext (fun k => u3 2 k (by (try dsimp only); omega))).trans j5') u1 u2 (fun x k w => ?_)⟩
  try dsimp only at w
  rw [u3 x k (by (try dsimp only); omega), F x k (by (try dsimp only); omega)]
