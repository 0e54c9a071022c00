/-! ===== thirds: the class's countRests (by program, wip/whole/p72.py) ===== -/
theorem p243 {n : Nat} (h : n ≤ 5) : 3 ^ n ≤ 243 := Nat.pow_le_pow_right (n := 3) (by decide) h
def csX9_countRests : List (Nat × Nat × Nat × mj_PT) := [(28, 0, 2, mj_rcv 9 tX9_isRest)]
theorem csX9_countRests_ok : mj_Cs mX9_countRests 3 csX9_countRests := (mj_CsV (D' := 2) (ci := 9) (q := (RX9, TX9, 5)) sdX9_isRest (Nat.le_of_ble_eq_true rfl) fX9_isRest rfl rfl iX9_isRest vX9_isRest (by decide +kernel) l9_28 mj_Cs0)
def cutX9_countRests : List (Nat × List Bool) := [(4, [true, true, true])]
set_option maxRecDepth 100000 in
set_option maxHeartbeats 4000000 in
theorem inX9_countRests {Ω : mj_Om} {l : Launch} {d : Nat} {Φ : Option Value → mj_M → Prop} (hd : 3 ≤ d) (I : Nat → Nat → Int32) (J : Nat → Nat → Int64)
    (h : ((mj_G Ω l false mX9_countRests d 0 0 Φ 0 0 4 ([some (.ref 82), some (.int (0 : Int32)), some (.int (0 : Int32))], [], (mk I J))))) :
    mj_Met Ω l false mX9_countRests d 0 0 [.ref 82] (mk I J) Φ := mj_entry (by decide) rfl (fun h => (by cases h)) (Nat.le_of_ble_eq_true rfl) (mj_blk (μ := mX9_countRests) (P := pX9_countRests) (cut := cutX9_countRests) (cs := csX9_countRests) dX9_countRests csX9_countRests_ok hd 18 0 _ h)
set_option maxRecDepth 100000 in
set_option maxHeartbeats 4000000 in
theorem bX9_countRests_4 {Ω : mj_Om} {l : Launch} {d : Nat} {Φ : Option Value → mj_M → Prop} (hd : 3 ≤ d) (x1 : Int32) (x2 : Int32) (I : Nat → Nat → Int32) (J : Nat → Nat → Int64)
    (h : ((if x2 < (I 82 4) then ((82 = 82 ∧ mj_isk (mk I J)) ∧ (∃ r961 : Nat, x2 = nI r961 ∧ (∃ n962 : Nat, ((n962 ≤ 5 ∧ I 82 3 = nI n962 ∧ r961 < 2147483648) ∧ (∀ I963 : Nat → Nat → Int32, ((∀ b, b < n962 → I963 83 b = nI (dg n962 r961 b)) ∧ (∀ t, t < 3 → I963 84 t = nI (crd n962 r961 t)) ∧ fr (fun c _ => c = 83 ∨ c = 84) I I963) → (if (b2i (isRs n962 r961 (fun t => I 85 t))) = (0 : Int32) then (mj_G Ω l false mX9_countRests d 0 0 Φ 0 0 4 ([some (.ref 82), some (.int x1), some (.int (x2 + (1 : Int32)))], [], (mk I963 J))) else (mj_G Ω l false mX9_countRests d 0 0 Φ 0 0 4 ([some (.ref 82), some (.int (x1 + (1 : Int32))), some (.int (x2 + (1 : Int32)))], [], (mk I963 J))))))))) else (Φ (some (.int x1)) (mk I J))))) :
    mj_G Ω l false mX9_countRests d 0 0 Φ 0 0 4 ([some (.ref 82), some (.int x1), some (.int x2)], [], mk I J) := mj_blk (μ := mX9_countRests) (P := pX9_countRests) (cut := cutX9_countRests) (cs := csX9_countRests) dX9_countRests csX9_countRests_ok hd 18 4 _ h
def tX9_countRests : mj_PT := fun as M Φ => match as with
  | [.ref this] => ((this = 82 ∧ mj_isk M) ∧ (∃ n : Nat, ((n ≤ 5 ∧ M.2.2.1 82 3 = nI n ∧ M.2.2.1 82 4 = nI (3 ^ n)) ∧ (∀ I1 : Nat → Nat → Int32, (fr (fun c _ => c = 83 ∨ c = 84) M.2.2.1 I1) → Φ (some (.int (nI (cnt (fun r => isRs n r (fun t => M.2.2.1 85 t)) (3 ^ n))))) (M.1, M.2.1, I1, M.2.2.2)))))
  | _ => False
set_option maxHeartbeats 4000000 in
theorem mnX9_countRests {Ω : mj_Om} {l : Launch} {d : Nat} {Φ : Option Value → mj_M → Prop} (hd : 3 ≤ d) (n : Nat) (I : Nat → Nat → Int32) (J : Nat → Nat → Int64) (hp : n ≤ 5 ∧ I 82 3 = nI n ∧ I 82 4 = nI (3 ^ n)) (h : ∀ I1 : Nat → Nat → Int32, (fr (fun c _ => c = 83 ∨ c = 84) I I1) → Φ (some (.int (nI (cnt (fun r => isRs n r (fun t => I 85 t)) (3 ^ n))))) (mk I1 J)) : mj_Met Ω l false mX9_countRests d 0 0 [.ref 82] (mk I J) Φ := by
  refine inX9_countRests hd I J ?_
  obtain ⟨hn, h3, h4⟩ := hp
  have hq := p243 hn
  refine lp_inv (σ := Int32 × (Nat → Nat → Int32)) (n := 3 ^ n) (G := fun i s => mj_G Ω l false mX9_countRests d 0 0 Φ 0 0 4 ([some (.ref 82), some (.int (s.1)), some (.int (nI i))], [], mk s.2 J)) (fun i s => s.1 = nI (cnt (fun r => isRs n r (fun t => I 85 t)) i) ∧ fr (fun c _ => c = 83 ∨ c = 84) I s.2) (fun i s hi hI hk => ?_) (fun s hI => ?_) (3 ^ n) 0 (0, I) (by omega) ⟨rfl, fr_rf⟩
  · obtain ⟨x, A⟩ := s
    obtain ⟨hx, hA⟩ := hI
    dsimp only at hx hA
    have e5 : (fun t => A 85 t) = (fun t => I 85 t) := funext (fun t => hA 85 t (by (try dsimp only); omega))
    refine bX9_countRests_4 hd x (nI i) A J ?_
    rw [hA 82 4 (by (try dsimp only); omega), h4, if_pos (show nI i < nI (3 ^ n) by rw [jn_lt (by omega) (by omega)]; exact hi)]
    refine ⟨⟨by trivial, mj_isk_mk _ _⟩, i, rfl, n, ⟨hn, by rw [hA 82 3 (by (try dsimp only); omega)]; exact h3, by omega⟩, fun B hB => ?_⟩
    rw [e5, jn_succ]
    have hfr := fr_tr hA hB.2.2
    split
    · rename_i z; rw [b2i_e0] at z
      exact hk (x, B) ⟨by rw [cnt_n (p := fun r => isRs n r (fun t => I 85 t)) z]; exact hx, hfr⟩
    · rename_i z; rw [b2i_e0] at z
      exact hk (x + 1, B) ⟨by rw [cnt_y (p := fun r => isRs n r (fun t => I 85 t)) (Classical.not_not.mp z), ← jn_succ]; exact congrArg (· + 1) hx, hfr⟩
  · obtain ⟨x, A⟩ := s
    obtain ⟨hx, hA⟩ := hI
    dsimp only at hx hA
    refine bX9_countRests_4 hd x (nI (3 ^ n)) A J ?_
    rw [hA 82 4 (by (try dsimp only); omega), h4, if_neg Int32.lt_irrefl, hx]
    exact h A hA
theorem sdX9_countRests : mj_Sd mX9_countRests 3 tX9_countRests := by
  intro Ω l d hd as M Φ h
  unfold tX9_countRests at h
  split at h
  · rename_i z_this
    obtain ⟨⟨rfl, hM⟩, n, hp, h⟩ := h
    rw [mj_isk_of hM]
    exact mnX9_countRests hd n _ _ hp (by
      rw [mj_isk_of hM] at h
      exact h)
  · exact h.elim
