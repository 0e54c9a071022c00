/-! ===== thirds: what a third is worth to the reference (by program, wip/whole/p70.py) ===== -/
theorem sub2 (w : Int32) (c : Nat) : w - nI (2 * c) - 2 = w - nI (2 * (c + 1)) := by
  rw [show 2 * (c + 1) = 2 * c + 2 by omega, ← jn_add (2 * c) 2]
  generalize nI (2 * c) = z
  show w - z - 2 = w - (z + 2)
  grind
def csX12_thirdWorth : List (Nat × Nat × Nat × mj_PT) := []
theorem csX12_thirdWorth_ok : mj_Cs mX12_thirdWorth 1 csX12_thirdWorth := mj_Cs0
def cutX12_thirdWorth : List (Nat × List Bool) := [(31, [true, true, true, true, true, true, true])]
set_option maxRecDepth 100000 in
set_option maxHeartbeats 4000000 in
theorem inX12_thirdWorth {Ω : mj_Om} {l : Launch} {d : Nat} {Φ : Option Value → mj_M → Prop} (hd : 1 ≤ d) (b_ : Int32) (t_ : Int32) (a : Int32) (I : Nat → Nat → Int32) (J : Nat → Nat → Int64)
    (h : ((if (I 104 2) = (0 : Int32) then (mj_G Ω l false mX12_thirdWorth d 0 0 Φ 0 0 31 ([some (.ref 91), some (.int b_), some (.int t_), some (.int a), some (.int ((2 : Int32) - t_)), some (.int ((((5 : Int32) * a) * ((2 : Int32) - t_)) / (2 : Int32))), some (.int (0 : Int32))], [], (mk I J))) else (mj_G Ω l false mX12_thirdWorth d 0 0 Φ 0 0 31 ([some (.ref 91), some (.int b_), some (.int t_), some (.int a), some (.int t_), some (.int ((((5 : Int32) * a) * t_) / (2 : Int32))), some (.int (0 : Int32))], [], (mk I J)))))) :
    mj_Met Ω l false mX12_thirdWorth d 0 0 [.ref 91, .int b_, .int t_, .int a] (mk I J) Φ := mj_entry (by decide) rfl (fun h => (by cases h)) (Nat.le_of_ble_eq_true rfl) (mj_blk (μ := mX12_thirdWorth) (P := pX12_thirdWorth) (cut := cutX12_thirdWorth) (cs := csX12_thirdWorth) dX12_thirdWorth csX12_thirdWorth_ok hd 45 0 _ h)
set_option maxRecDepth 100000 in
set_option maxHeartbeats 4000000 in
theorem bX12_thirdWorth_31 {Ω : mj_Om} {l : Launch} {d : Nat} {Φ : Option Value → mj_M → Prop} (hd : 1 ≤ d) (x1 : Int32) (x2 : Int32) (x3 : Int32) (x4 : Int32) (x5 : Int32) (x6 : Int32) (I : Nat → Nat → Int32) (J : Nat → Nat → Int64)
    (h : ((if x6 < (I 91 22) then (if x6 = x1 then (mj_G Ω l false mX12_thirdWorth d 0 0 Φ 0 0 31 ([some (.ref 91), some (.int x1), some (.int x2), some (.int x3), some (.int x4), some (.int (x5 - (0 : Int32))), some (.int (x6 + (1 : Int32)))], [], (mk I J))) else (mj_gd (mj_inB x6 8) (if (I 112 (x6).toNatClampNeg) = x2 then (mj_G Ω l false mX12_thirdWorth d 0 0 Φ 0 0 31 ([some (.ref 91), some (.int x1), some (.int x2), some (.int x3), some (.int x4), some (.int (x5 - (2 : Int32))), some (.int (x6 + (1 : Int32)))], [], (mk I J))) else (mj_G Ω l false mX12_thirdWorth d 0 0 Φ 0 0 31 ([some (.ref 91), some (.int x1), some (.int x2), some (.int x3), some (.int x4), some (.int (x5 - (0 : Int32))), some (.int (x6 + (1 : Int32)))], [], (mk I J)))))) else (Φ (some (.int x5)) (mk I J))))) :
    mj_G Ω l false mX12_thirdWorth d 0 0 Φ 0 0 31 ([some (.ref 91), some (.int x1), some (.int x2), some (.int x3), some (.int x4), some (.int x5), some (.int x6)], [], mk I J) := mj_blk (μ := mX12_thirdWorth) (P := pX12_thirdWorth) (cut := cutX12_thirdWorth) (cs := csX12_thirdWorth) dX12_thirdWorth csX12_thirdWorth_ok hd 45 31 _ h
def tX12_thirdWorth : mj_PT := fun as M Φ => match as with
  | [.ref this, .int b_, .int t_, .int a] => ((this = 91 ∧ mj_isk M) ∧ (∃ b : Nat, b_ = nI b ∧ (∃ t : Nat, t_ = nI t ∧ ((okM M.2.2.1 ∧ b < 8 ∧ t < 3) ∧ Φ (some (.int (wo (M.2.2.1 104 2) a t - nI (2 * cnt (fun o => ¬ o = b ∧ M.2.2.1 112 o = nI t) (nM M.2.2.1))))) M))))
  | _ => False
set_option maxHeartbeats 4000000 in
theorem mnX12_thirdWorth {Ω : mj_Om} {l : Launch} {d : Nat} {Φ : Option Value → mj_M → Prop} (hd : 1 ≤ d) (b : Nat) (t : Nat) (a : Int32) (I : Nat → Nat → Int32) (J : Nat → Nat → Int64) (hp : okM I ∧ b < 8 ∧ t < 3) (h : Φ (some (.int (wo (I 104 2) a t - nI (2 * cnt (fun o => ¬ o = b ∧ I 112 o = nI t) (nM I))))) (mk I J)) : mj_Met Ω l false mX12_thirdWorth d 0 0 [.ref 91, .int (nI b), .int (nI t), .int a] (mk I J) Φ := by
  refine inX12_thirdWorth hd (nI b) (nI t) a I J ?_
  obtain ⟨⟨hc, hn⟩, hb, ht⟩ := hp
  have key : ∀ (x4 x5 : Int32), x5 = wo (I 104 2) a t → mj_G Ω l false mX12_thirdWorth d 0 0 Φ 0 0 31 ([some (.ref 91), some (.int (nI b)), some (.int (nI t)), some (.int a), some (.int x4), some (.int x5), some (.int 0)], [], mk I J) := by
    intro x4 x5 h5
    refine lp_inv (σ := Int32) (n := nM I) (G := fun i x => mj_G Ω l false mX12_thirdWorth d 0 0 Φ 0 0 31 ([some (.ref 91), some (.int (nI b)), some (.int (nI t)), some (.int a), some (.int x4), some (.int x), some (.int (nI i))], [], mk I J)) (fun i x => x = wo (I 104 2) a t - nI (2 * cnt (fun o => ¬ o = b ∧ I 112 o = nI t) i)) (fun i x hi hI hk => ?_) (fun x hI => ?_) (nM I) 0 x5 (by omega) (by rw [h5]; exact (Int32.sub_zero _).symm)
    · refine bX12_thirdWorth_31 hd (nI b) (nI t) a x4 x (nI i) I J ?_
      rw [hc, if_pos (show nI i < nI (nM I) by rw [jn_lt (by omega) (by omega)]; exact hi)]
      simp (disch := omega) only [jn_in, jn_cl, gd_dec, jn_succ]
      have eb : (nI i = nI b) = (i = b) := jn_eq (by omega) (by omega)
      have s0 : x - 0 = x := Int32.sub_zero _
      rw [s0]
      have n0 := fun (q : ¬ (¬ i = b ∧ I 112 i = nI t)) => hk x (by rw [hI, cnt_n (p := fun o => ¬ o = b ∧ I 112 o = nI t) q])
      split
      · rename_i z; rw [eb] at z; exact n0 (fun q => q.1 z)
      · rename_i z; rw [eb] at z
        split
        · rename_i y
          exact hk _ (by rw [hI, cnt_y (p := fun o => ¬ o = b ∧ I 112 o = nI t) ⟨z, y⟩, sub2])
        · rename_i y; exact n0 (fun q => y q.2)
    · refine bX12_thirdWorth_31 hd (nI b) (nI t) a x4 x (nI (nM I)) I J ?_
      rw [hc, if_neg Int32.lt_irrefl, hI]
      exact h
  split
  · rename_i z; exact key _ _ (by unfold wo; rw [if_pos z])
  · rename_i z; exact key _ _ (by unfold wo; rw [if_neg z])
theorem sdX12_thirdWorth : mj_Sd mX12_thirdWorth 1 tX12_thirdWorth := by
  intro Ω l d hd as M Φ h
  unfold tX12_thirdWorth at h
  split at h
  · rename_i z_this b_ t_ a
    obtain ⟨⟨rfl, hM⟩, b, rfl, t, rfl, hp, h⟩ := h
    rw [mj_isk_of hM]
    exact mnX12_thirdWorth hd b t a _ _ hp (by
      rw [mj_isk_of hM] at h
      exact h)
  · exact h.elim
