/-! ===== constants: static arrays (cells 1000 on), texts (1010 on), their bytes (1020 on) ===== -/
def mj_kI : List (String × Nat × List Int32) := [("LINE_LEAST", 78, [2, 0, 0, 0, 0, 1, 0]), ("LINE_MOST", 81, [20, 9, 1, 9, 9, 60, 1]), ("LINE_USUAL", 84, [10, 0, 0, 0, 0, 20, 0]), ("BOAT_LEAST", 102, [0, 0, 0, 1, 0, 0]), ("BOAT_MOST", 105, [19, 19, 3, 3, 9, 4]), ("BOAT_USUAL", 108, [0, 5, 0, 2, 5, 4])]
def mj_kS : List (Nat × Nat × String × List Int32) := [(10, 76, "waeudsf", [119, 97, 101, 117, 100, 115, 102]), (10, 100, "xyvmzr", [120, 121, 118, 109, 122, 114]), (7, 75, "btvxcwl", [98, 116, 118, 120, 99, 119, 108])]
def mj_kc (c : Nat) : Option (Nat × List Int32) := if c < 1000 then none else if c < 1010 then (mj_kI[c - 1000]?).map (fun q => (0, q.2.2)) else if c < 1020 then none else (mj_kS[c - 1020]?).map (fun q => (1, q.2.2.2))
/-- static fields that are read: what they hold -/
def mj_gs (o idx : Nat) : Option Value := match o with
  | 10 => (List.lookup idx [(78, 1000), (81, 1001), (84, 1002), (102, 1003), (105, 1004), (108, 1005)] : Option Nat).map .ref
  | 14 => if idx = 38 then some (.int 1) else none
  | _ => none
/-- texts that are loaded -/
def mj_lt (o idx : Nat) : Option Nat := (List.range 3).find? (fun i => decide ((mj_kS[i]?).map (fun q => (q.1, q.2.1)) = some (o, idx)))
set_option maxRecDepth 100000 in
theorem mj_gsT : (List.range 6).all (fun k => match mj_kI[k]? with
  | some q => mj_gw (.fieldLink RX10 q.2.1 RX10 q.1 "[I")
  | none => false) = true := by decide +kernel
theorem mj_gsC : Cond.fieldLink RJ0 38 "java/lang/String" "COMPACT_STRINGS" "Z" ∈ mj_GW := mj_gw_in (by decide +kernel)
theorem mj_gsV : Cond.fieldLink RJ0 9 "java/lang/String" "value" "[B" ∈ mj_GW := mj_gw_in (by decide +kernel)
theorem mj_gsD : Cond.fieldLink RJ0 15 "java/lang/String" "coder" "B" ∈ mj_GW := mj_gw_in (by decide +kernel)
theorem mj_cpS : Cond.static arraycopyName ∈ mj_GW := mj_gw_in (by decide +kernel)
theorem mj_cpN : Cond.native arraycopyName ∈ mj_GW := mj_gw_in (by decide +kernel)
theorem mj_cpI : Cond.initialized "java/lang/System" ∈ mj_GW := mj_gw_in (by decide +kernel)
