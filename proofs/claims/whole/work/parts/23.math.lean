/-! ===== Math: by the kit's own rows ===== -/
def mj_ptmx : mj_PT := fun as M Φ => match as with
  | [.int x, .int y] => Φ (some (.int (if x < y then y else x))) M
  | _ => False
set_option maxRecDepth 100000 in
theorem mj_wmx : mj_gw (Cond.static Lib.Math.max.name) = true ∧ mj_gw (Cond.code Lib.Math.max.name Lib.Math.max.code 2 (some .int)) = true ∧ mj_gw (Cond.initialized "java/lang/Math") = true := by decide +kernel
theorem mj_cmx {Ω : mj_Om} {l : Launch} {μ : mj_m} {d k : Nat} (hd : 1 ≤ d) (hlk : Cond.methodLink (mj_own.getD μ.1 "") k Lib.Math.max.name ∈ mj_GW) : mj_Call Ω l false μ d k 1 2 mj_ptmx := by
  intro p e s m args below meth c Q R k0 n0 pc L as rest M Φ F hRR hdg hlen hW hpt hk H locs ls hH hl
  obtain ⟨hx, hb, hml, hown, hts, hr, hlk2, hK, hin, hbs, hKc⟩ := F
  have hrm : ((rest.map (mj_v Ω)).map fun v => v.category).sum + 13 ≤ R.locals := by
    have : ((rest.map (mj_v Ω)).map fun v => v.category) = rest.map (fun v => v.category) := by rw [List.map_map]; exact List.map_congr_left (fun v _ => mj_v_cat Ω v)
    rw [this]
    omega
  simp only [mj_ptmx] at hpt
  split at hpt
  · exact va_mmax hx hb (by rw [hml]; exact hl.1.symm) hown (hts _ hlk) (hts _ (mj_gw_in mj_wmx.1)) (hts _ (mj_gw_in mj_wmx.2.2)) (hts _ (mj_gw_in mj_wmx.2.1)) (by omega) hrm hRR.2.2.1 hRR.2.2.2 hdg (hk _ _ hpt H locs ls hH hl)
  · exact hpt.elim
theorem mj_Csmx {μ : mj_m} {D k : Nat} {cs : List (Nat × Nat × Nat × mj_PT)} (hD : 1 ≤ D) (hlk : Cond.methodLink (mj_own.getD μ.1 "") k Lib.Math.max.name ∈ mj_GW) (ht : mj_Cs μ D cs) : mj_Cs μ D ((k, 1, 2, mj_ptmx) :: cs) := by
  intro Ω l d hd q' hq'
  rcases List.mem_cons.mp hq' with rfl | hq'
  · exact mj_cmx (by omega) hlk
  · exact ht Ω l d hd q' hq'
def mj_ptmn : mj_PT := fun as M Φ => match as with
  | [.int x, .int y] => Φ (some (.int (if y < x then y else x))) M
  | _ => False
set_option maxRecDepth 100000 in
theorem mj_wmn : mj_gw (Cond.static Lib.Math.min.name) = true ∧ mj_gw (Cond.code Lib.Math.min.name Lib.Math.min.code 2 (some .int)) = true ∧ mj_gw (Cond.initialized "java/lang/Math") = true := by decide +kernel
theorem mj_cmn {Ω : mj_Om} {l : Launch} {μ : mj_m} {d k : Nat} (hd : 1 ≤ d) (hlk : Cond.methodLink (mj_own.getD μ.1 "") k Lib.Math.min.name ∈ mj_GW) : mj_Call Ω l false μ d k 1 2 mj_ptmn := by
  intro p e s m args below meth c Q R k0 n0 pc L as rest M Φ F hRR hdg hlen hW hpt hk H locs ls hH hl
  obtain ⟨hx, hb, hml, hown, hts, hr, hlk2, hK, hin, hbs, hKc⟩ := F
  have hrm : ((rest.map (mj_v Ω)).map fun v => v.category).sum + 13 ≤ R.locals := by
    have : ((rest.map (mj_v Ω)).map fun v => v.category) = rest.map (fun v => v.category) := by rw [List.map_map]; exact List.map_congr_left (fun v _ => mj_v_cat Ω v)
    rw [this]
    omega
  simp only [mj_ptmn] at hpt
  split at hpt
  · exact va_mmin hx hb (by rw [hml]; exact hl.1.symm) hown (hts _ hlk) (hts _ (mj_gw_in mj_wmn.1)) (hts _ (mj_gw_in mj_wmn.2.2)) (hts _ (mj_gw_in mj_wmn.2.1)) (by omega) hrm hRR.2.2.1 hRR.2.2.2 hdg (hk _ _ hpt H locs ls hH hl)
  · exact hpt.elim
theorem mj_Csmn {μ : mj_m} {D k : Nat} {cs : List (Nat × Nat × Nat × mj_PT)} (hD : 1 ≤ D) (hlk : Cond.methodLink (mj_own.getD μ.1 "") k Lib.Math.min.name ∈ mj_GW) (ht : mj_Cs μ D cs) : mj_Cs μ D ((k, 1, 2, mj_ptmn) :: cs) := by
  intro Ω l d hd q' hq'
  rcases List.mem_cons.mp hq' with rfl | hq'
  · exact mj_cmn (by omega) hlk
  · exact ht Ω l d hd q' hq'
def mj_ptab : mj_PT := fun as M Φ => match as with
  | [.int x] => Φ (some (.int (if 0 ≤ x then x else 0 - x))) M
  | _ => False
set_option maxRecDepth 100000 in
theorem mj_wab : mj_gw (Cond.static Lib.Math.abs.name) = true ∧ mj_gw (Cond.code Lib.Math.abs.name Lib.Math.abs.code 1 (some .int)) = true ∧ mj_gw (Cond.initialized "java/lang/Math") = true := by decide +kernel
theorem mj_cab {Ω : mj_Om} {l : Launch} {μ : mj_m} {d k : Nat} (hd : 1 ≤ d) (hlk : Cond.methodLink (mj_own.getD μ.1 "") k Lib.Math.abs.name ∈ mj_GW) : mj_Call Ω l false μ d k 1 1 mj_ptab := by
  intro p e s m args below meth c Q R k0 n0 pc L as rest M Φ F hRR hdg hlen hW hpt hk H locs ls hH hl
  obtain ⟨hx, hb, hml, hown, hts, hr, hlk2, hK, hin, hbs, hKc⟩ := F
  have hrm : ((rest.map (mj_v Ω)).map fun v => v.category).sum + 13 ≤ R.locals := by
    have : ((rest.map (mj_v Ω)).map fun v => v.category) = rest.map (fun v => v.category) := by rw [List.map_map]; exact List.map_congr_left (fun v _ => mj_v_cat Ω v)
    rw [this]
    omega
  simp only [mj_ptab] at hpt
  split at hpt
  · exact va_mabs hx hb (by rw [hml]; exact hl.1.symm) hown (hts _ hlk) (hts _ (mj_gw_in mj_wab.1)) (hts _ (mj_gw_in mj_wab.2.2)) (hts _ (mj_gw_in mj_wab.2.1)) (by omega) hrm hRR.2.2.1 hRR.2.2.2 hdg (hk _ _ hpt H locs ls hH hl)
  · exact hpt.elim
theorem mj_Csab {μ : mj_m} {D k : Nat} {cs : List (Nat × Nat × Nat × mj_PT)} (hD : 1 ≤ D) (hlk : Cond.methodLink (mj_own.getD μ.1 "") k Lib.Math.abs.name ∈ mj_GW) (ht : mj_Cs μ D cs) : mj_Cs μ D ((k, 1, 1, mj_ptab) :: cs) := by
  intro Ω l d hd q' hq'
  rcases List.mem_cons.mp hq' with rfl | hq'
  · exact mj_cab (by omega) hlk
  · exact ht Ω l d hd q' hq'
def mj_ptmxl : mj_PT := fun as M Φ => match as with
  | [.long x, .long y] => Φ (some (.long (if y < x then x else y))) M
  | _ => False
set_option maxRecDepth 100000 in
theorem mj_wmxl : mj_gw (Cond.static Lib.MathLoose.max_long.x) = true ∧ mj_gw (Cond.code Lib.MathLoose.max_long.x Lib.MathLoose.max_long.code 4 (some .long)) = true ∧ mj_gw (Cond.initialized "java/lang/Math") = true := by decide +kernel
theorem mj_cmxl {Ω : mj_Om} {l : Launch} {μ : mj_m} {d k : Nat} (hd : 1 ≤ d) (hlk : Cond.methodLink (mj_own.getD μ.1 "") k Lib.MathLoose.max_long.x ∈ mj_GW) : mj_Call Ω l false μ d k 1 2 mj_ptmxl := by
  intro p e s m args below meth c Q R k0 n0 pc L as rest M Φ F hRR hdg hlen hW hpt hk H locs ls hH hl
  obtain ⟨hx, hb, hml, hown, hts, hr, hlk2, hK, hin, hbs, hKc⟩ := F
  have hrm : ((rest.map (mj_v Ω)).map fun v => v.category).sum + 15 ≤ R.locals := by
    have : ((rest.map (mj_v Ω)).map fun v => v.category) = rest.map (fun v => v.category) := by rw [List.map_map]; exact List.map_congr_left (fun v _ => mj_v_cat Ω v)
    rw [this]
    omega
  simp only [mj_ptmxl] at hpt
  split at hpt
  · exact va_mmax_long hx hb (by rw [hml]; exact hl.1.symm) hown (hts _ hlk) (hts _ (mj_gw_in mj_wmxl.1)) (hts _ (mj_gw_in mj_wmxl.2.2)) (hts _ (mj_gw_in mj_wmxl.2.1)) (by omega) hrm hRR.2.2.1 hRR.2.2.2 hdg (hk _ _ hpt H locs ls hH hl)
  · exact hpt.elim
theorem mj_Csmxl {μ : mj_m} {D k : Nat} {cs : List (Nat × Nat × Nat × mj_PT)} (hD : 1 ≤ D) (hlk : Cond.methodLink (mj_own.getD μ.1 "") k Lib.MathLoose.max_long.x ∈ mj_GW) (ht : mj_Cs μ D cs) : mj_Cs μ D ((k, 1, 2, mj_ptmxl) :: cs) := by
  intro Ω l d hd q' hq'
  rcases List.mem_cons.mp hq' with rfl | hq'
  · exact mj_cmxl (by omega) hlk
  · exact ht Ω l d hd q' hq'
def mj_ptmnl : mj_PT := fun as M Φ => match as with
  | [.long x, .long y] => Φ (some (.long (if y < x then y else x))) M
  | _ => False
set_option maxRecDepth 100000 in
theorem mj_wmnl : mj_gw (Cond.static Lib.MathLoose.min_long.x) = true ∧ mj_gw (Cond.code Lib.MathLoose.min_long.x Lib.MathLoose.min_long.code 4 (some .long)) = true ∧ mj_gw (Cond.initialized "java/lang/Math") = true := by decide +kernel
theorem mj_cmnl {Ω : mj_Om} {l : Launch} {μ : mj_m} {d k : Nat} (hd : 1 ≤ d) (hlk : Cond.methodLink (mj_own.getD μ.1 "") k Lib.MathLoose.min_long.x ∈ mj_GW) : mj_Call Ω l false μ d k 1 2 mj_ptmnl := by
  intro p e s m args below meth c Q R k0 n0 pc L as rest M Φ F hRR hdg hlen hW hpt hk H locs ls hH hl
  obtain ⟨hx, hb, hml, hown, hts, hr, hlk2, hK, hin, hbs, hKc⟩ := F
  have hrm : ((rest.map (mj_v Ω)).map fun v => v.category).sum + 15 ≤ R.locals := by
    have : ((rest.map (mj_v Ω)).map fun v => v.category) = rest.map (fun v => v.category) := by rw [List.map_map]; exact List.map_congr_left (fun v _ => mj_v_cat Ω v)
    rw [this]
    omega
  simp only [mj_ptmnl] at hpt
  split at hpt
  · exact va_mmin_long hx hb (by rw [hml]; exact hl.1.symm) hown (hts _ hlk) (hts _ (mj_gw_in mj_wmnl.1)) (hts _ (mj_gw_in mj_wmnl.2.2)) (hts _ (mj_gw_in mj_wmnl.2.1)) (by omega) hrm hRR.2.2.1 hRR.2.2.2 hdg (hk _ _ hpt H locs ls hH hl)
  · exact hpt.elim
theorem mj_Csmnl {μ : mj_m} {D k : Nat} {cs : List (Nat × Nat × Nat × mj_PT)} (hD : 1 ≤ D) (hlk : Cond.methodLink (mj_own.getD μ.1 "") k Lib.MathLoose.min_long.x ∈ mj_GW) (ht : mj_Cs μ D cs) : mj_Cs μ D ((k, 1, 2, mj_ptmnl) :: cs) := by
  intro Ω l d hd q' hq'
  rcases List.mem_cons.mp hq' with rfl | hq'
  · exact mj_cmnl (by omega) hlk
  · exact ht Ω l d hd q' hq'
