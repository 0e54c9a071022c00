/-! ===== answers alike (by program, wip/whole/p66.py) ===== -/
theorem ahead_al {I : Nat → Nat → Int32} {R : RF} {b w : Int32} (h : Rel I) : aheadR (nM I) (lv7 (I 104)) R (VM I) (I 106 48) b w = aheadR (nF I 39) (lv7 (I 27)) R (VF I 39) (I 39 9) b w :=
  alike h (fun n C F s => aheadR n C R F s b w) (fun C F s C' F' s' => by
    show aheadR 0 C R F s b w = aheadR 0 C' R F' s' b w
    unfold aheadR
    rw [cif_f (fun w => ok0 w.1), cif_f (fun w => ok0 w.1)])
theorem where_al {I : Nat → Nat → Int32} {R : RF} {b w : Int32} (h : Rel I) : whereR (nM I) (lv7 (I 104)) R (VM I) (I 106 48) b w = whereR (nF I 39) (lv7 (I 27)) R (VF I 39) (I 39 9) b w :=
  alike h (fun n C F s => whereR n C R F s b w) (fun C F s C' F' s' => by
    show whereR 0 C R F s b w = whereR 0 C' R F' s' b w
    unfold whereR
    rw [cif_f (fun w => ok0 w.1), cif_f (fun w => ok0 w.1)])
theorem near_al {I : Nat → Nat → Int32} {R : RF} {b w : Int32} (h : Rel I) : nearR (nM I) (lv7 (I 104)) R (VM I) (I 106 48) b w = nearR (nF I 39) (lv7 (I 27)) R (VF I 39) (I 39 9) b w :=
  alike h (fun n C F s => nearR n C R F s b w) (fun C F s C' F' s' => by
    show nearR 0 C R F s b w = nearR 0 C' R F' s' b w
    unfold nearR
    rw [cif_f (fun w => ok0 w.1), cif_f (fun w => ok0 w.1)])
theorem row_al {I : Nat → Nat → Int32} {R : RF} {b y : Int32} (h : Rel I) : rowR (nM I) (lv7 (I 104)) R (VM I) (I 106 48) b y = rowR (nF I 39) (lv7 (I 27)) R (VF I 39) (I 39 9) b y :=
  alike h (fun n C F s => rowR n C R F s b y) (fun C F s C' F' s' => by
    show rowR 0 C R F s b y = rowR 0 C' R F' s' b y
    unfold rowR
    rw [cif_f (fun w => ok0 w.1), cif_f (fun w => ok0 w.1)])
theorem hold_al {I : Nat → Nat → Int32} {R : RF} {b w : Int32} (h : Rel I) : holdR (nM I) (lv7 (I 104)) R (VM I) (I 106 48) b w = holdR (nF I 39) (lv7 (I 27)) R (VF I 39) (I 39 9) b w :=
  alike h (fun n C F s => holdR n C R F s b w) (fun C F s C' F' s' => by
    show holdR 0 C R F s b w = holdR 0 C' R F' s' b w
    unfold holdR
    rw [cif_f (fun w => ok0 w.1), cif_f (fun w => ok0 w.1)])
theorem keeps_al {I : Nat → Nat → Int32} {R : RF} {b : Int32} (h : Rel I) : keepsR (nM I) (lv7 (I 104)) R (VM I) (I 106 48) b = keepsR (nF I 39) (lv7 (I 27)) R (VF I 39) (I 39 9) b :=
  alike h (fun n C F s => keepsR n C R F s b) (fun C F s C' F' s' => by
    show keepsR 0 C R F s b = keepsR 0 C' R F' s' b
    unfold keepsR
    rw [cif_f ok0, cif_f ok0])
theorem flag_al {I : Nat → Nat → Int32} {R : RF} {b : Int32} (h : Rel I) : flagR (nM I) (lv7 (I 104)) R (VM I) (I 106 48) b = flagR (nF I 39) (lv7 (I 27)) R (VF I 39) (I 39 9) b :=
  alike h (fun n C F s => flagR n C R F s b) (fun C F s C' F' s' => by
    show flagR 0 C R F s b = flagR 0 C' R F' s' b
    unfold flagR
    rw [cif_f ok0, cif_f ok0])
theorem duel_al {I : Nat → Nat → Int32} {m : Nat} {R : RF} {x y : Int32} (h : Rel I) : duelR (nM I) m R (lv7 (I 104) 5) x y = duelR (nF I 39) m R (lv7 (I 27) 5) x y :=
  alike h (fun n C _ _ => duelR n m R (C 5) x y) (fun C F s C' F' s' => by
    show duelR 0 m R (C 5) x y = duelR 0 m R (C' 5) x y
    unfold duelR
    rw [cif_f (fun w => Nat.lt_irrefl 0 w.1), cif_f (fun w => Nat.lt_irrefl 0 w.1)])
theorem reply_al {I : Nat → Nat → Int32} {m : Nat} {R : RF} {x : Int32} (h : Rel I) : replyR (nM I) m R (lv7 (I 104) 5) x = replyR (nF I 39) m R (lv7 (I 27) 5) x :=
  alike h (fun n C _ _ => replyR n m R (C 5) x) (fun C F s C' F' s' => by
    show replyR 0 m R (C 5) x = replyR 0 m R (C' 5) x
    unfold replyR
    rw [cif_f (fun w => Nat.lt_irrefl 0 w.1), cif_f (fun w => Nat.lt_irrefl 0 w.1)])
theorem strong_al {I : Nat → Nat → Int32} {m : Nat} {R : RF} (h : Rel I) : strongR (nM I) m R (lv7 (I 104) 5)  = strongR (nF I 39) m R (lv7 (I 27) 5)  :=
  alike h (fun n C _ _ => strongR n m R (C 5) ) (fun C F s C' F' s' => by
    show strongR 0 m R (C 5)  = strongR 0 m R (C' 5) 
    unfold strongR
    rw [cif_f (fun w => Nat.lt_irrefl 0 w.1), cif_f (fun w => Nat.lt_irrefl 0 w.1)])
theorem race_al {I : Nat → Nat → Int32} {r : Nat} (h : Rel I) : raceV (nM I) (lv7 (I 104)) (I 106 48) r = raceV (nF I 39) (lv7 (I 27)) (I 39 9) r :=
  alike h (fun n C _ s => raceV n C s r) (fun C F s C' F' s' => by
    show raceV 0 C s r = raceV 0 C' s' r
    unfold raceV
    rw [cif_f (fun w => Nat.lt_irrefl 0 w.1), cif_f (fun w => Nat.lt_irrefl 0 w.1)])
theorem Rel_n {I : Nat → Nat → Int32} (h : Rel I) : nM I = nF I 39 := by
  obtain ⟨m, R, -, -, w3, -⟩ := Rel_c h
  exact w3
theorem whN_c {p q : Nat → Prop} : ∀ n, (∀ k, k < n → (p k ↔ q k)) → whN p n = whN q n
  | 0, _ => rfl
  | n + 1, h => by unfold whN; rw [whN_c n (fun k hk => h k (by omega)), cif_c (h n (by omega))]
theorem amn_c {f g : Nat → Int32} : ∀ n, (∀ k, k < n → f k = g k) → amn f n = amn g n := by
  intro n
  induction n with
  | zero => intro _; rfl
  | succ n ih =>
    intro h
    rcases Nat.eq_zero_or_pos n with q | q
    · subst q; rfl
    · have i := ih (fun k hk => h k (by omega))
      have b := amn_b (f := g) n q
      rw [amn_s q, amn_s q, i, h n (by omega), h (amn g n) (by omega)]
theorem points_al {I : Nat → Nat → Int32} {b : Int32} {r : Nat} (h : Rel I) (hr : r ≤ 40) (h42 : I 91 42 = nI r) : pointsR (nM I) (fun b => psum I b r) b = pointsR (nF I 39) (fun b => I 90 b) b := by
  have hn := Rel_n h
  obtain ⟨hT, hK, hW, hA, hI, hP, ⟨r', w1, w2, w3, w5, w4⟩, hg, h25, h26⟩ := h
  have er : r' = r := by
    have := w3.symm.trans h42
    rwa [jn_eq (by omega) (by omega)] at this
  subst er
  rw [hn]
  unfold pointsR
  by_cases q : okBN (nF I 39) b
  · rw [cif_t q, cif_t q]
    have hk : b.toNatClampNeg < nF I 39 := by
      have e := jn_of q.1
      have q2 := q.2
      have h8 := hW.1.2
      rw [e, jn_lt (cl_lt _) (by omega)] at q2
      exact q2
    exact (w4 _ hk).symm
  · rw [cif_f q, cif_f q]
theorem champ_al {I : Nat → Nat → Int32} {r : Nat} (h : Rel I) (hr : r ≤ 40) (h42 : I 91 42 = nI r) : champR r (nM I) (fun b => psum I b r) = champR r (nF I 39) (fun b => I 90 b) := by
  have hn := Rel_n h
  obtain ⟨hT, hK, hW, hA, hI, hP, ⟨r', w1, w2, w3, w5, w4⟩, hg, h25, h26⟩ := h
  have er : r' = r := by
    have := w3.symm.trans h42
    rwa [jn_eq (by omega) (by omega)] at this
  subst er
  rw [hn]
  unfold champR
  rw [amn_c (f := fun b => psum I b r') (g := fun b => I 90 b) (nF I 39) (fun k hk => (w4 k hk).symm)]
theorem was_al {I : Nat → Nat → Int32} {p : Nat} {w : Int32} (h : Rel I) (hp : p ≤ 12) (h40 : I 91 40 = nI p) : wasR (nM I) (fun k => wasP (nI (pcn I k p)) (plo I k p) (phi I k p) w) w = wasR (nF I 39) (fun k => wasP (I 87 k) (I 88 k) (I 89 k) w) w := by
  have hn := Rel_n h
  obtain ⟨hT, hK, hW, hA, hI, ⟨p', w1, w2, w3, w4⟩, hR, hg, h25, h26⟩ := h
  have er : p' = p := by
    have := w3.symm.trans h40
    rwa [jn_eq (by omega) (by omega)] at this
  subst er
  rw [hn]
  unfold wasR
  rw [whN_c (nF I 39) (fun k hk => by
    obtain ⟨v1, v2, v3⟩ := w4 k hk
    show wasP (nI (pcn I k p')) (plo I k p') (phi I k p') w ↔ wasP (I 87 k) (I 88 k) (I 89 k) w
    rw [v1, v2, v3])]
theorem pcn_0 {I : Nat → Nat → Int32} {b : Nat} : ∀ p, pcn I b p = 0 → plo I b p = -20 ∧ phi I b p = 20
  | 0, _ => ⟨rfl, rfl⟩
  | p + 1, h => by
    have hz : ¬ I 115 p = nI b := fun z => by
      have : pcn I b (p + 1) = pcn I b p + 1 := cnt_y (p := fun i => I 115 i = nI b) z
      omega
    have e : pcn I b (p + 1) = pcn I b p := cnt_n (p := fun i => I 115 i = nI b) hz
    rw [plo, phi, if_neg hz, if_neg hz]
    exact pcn_0 p (by omega)
theorem was_pre {I : Nat → Nat → Int32} (h : Rel I) : ∀ b, b < nF I 39 → ¬ 0 < I 87 b → ¬ I 89 b < I 88 b := by
  obtain ⟨hT, hK, hW, hA, hI, ⟨p, w1, w2, w3, w4⟩, hR, hg, h25, h26⟩ := h
  intro b hb hz
  obtain ⟨v1, v2, v3⟩ := w4 b hb
  have hl : pcn I b p ≤ p := cnt_le _ _
  rw [v1, jn_ltx0, jn_cl (by omega)] at hz
  obtain ⟨x1, x2⟩ := pcn_0 p (show pcn I b p = 0 by omega)
  rw [v2, v3, x1, x2]
  decide
