/-! ===== both fresh: the relation holds ===== -/
def I0 : Nat → Nat → Int32 := mj_ui (fun _ _ => 0) 91 25 (-1)
theorem I0_z {c k : Nat} (h : ¬ (c = 91 ∧ k = 25)) : I0 c k = 0 := by
  unfold I0 mj_ui
  by_cases q : c = 91
  · rw [if_pos q, if_neg (fun w => h ⟨q, w⟩)]
  · rw [if_neg q]
theorem Rel_0 : Rel I0 := by
  have n0 : nF I0 39 = 0 := by unfold nF; rw [I0_z (by omega)]; rfl
  have m0 : nM I0 = 0 := by unfold nM; rw [I0_z (by omega)]; rfl
  refine ⟨⟨0, by omega, I0_z (by omega), I0_z (by omega), fun k hk => absurd hk (Nat.not_lt_zero k)⟩, ⟨0, fun _ => [], ⟨I0_z (by omega), by omega, fun r hr => absurd hr (Nat.not_lt_zero r)⟩, ⟨I0_z (by omega), by omega, fun r hr => absurd hr (Nat.not_lt_zero r)⟩⟩, ⟨⟨by rw [n0]; exact I0_z (by omega), by omega⟩, ⟨by rw [m0]; exact I0_z (by omega), by omega⟩, by omega, by rw [I0_z (by omega), I0_z (by omega)], fun w => by omega⟩, ⟨0, 0, by omega, by omega, I0_z (by omega), I0_z (by omega), I0_z (by omega), fun w => by omega, fun j hj => absurd hj (Nat.not_lt_zero j)⟩, ⟨by rw [I0_z (by omega), I0_z (by omega)], Or.inl (I0_z (by omega)), fun w => ?_⟩, ⟨0, by omega, I0_z (by omega), I0_z (by omega), fun b hb => by omega⟩, ⟨0, by omega, I0_z (by omega), I0_z (by omega), fun w => by omega, fun b hb => by omega⟩, by rw [I0_z (by omega), I0_z (by omega)], ui_s, I0_z (by omega)⟩
  rw [I0_z (by omega)] at w
  exact absurd w (by decide)
