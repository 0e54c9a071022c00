/-! ===== what the tables say, for the small machine ===== -/
def mj_ftOk (kd : Nat) (ty : Option FieldType) : Bool := match kd, ty with
  | 0, some .int => true
  | 1, some .boolean => true
  | 2, some .long => true
  | 3, some (.object _) => true
  | 3, some (.array _) => true
  | _, _ => false
def mj_clsB (ci : Nat) (q : vw_C) : Bool :=
  (u_ws q.1 q.2.1 q.2.2).all mj_gw && decide ((mj_kds ci).length = q.2.2) &&
  (List.range q.2.2).all (fun k => mj_ftOk ((mj_kds ci).getD k 9) (parseFieldDescriptor (q.2.1 k).2.2.1) && decide ((q.2.1 k).2.2.2 = decide ((mj_kds ci).getD k 9 = 3)) && decide ((q.2.1 k).1 = q.1) &&
    (List.range q.2.2).all (fun b => decide (k = b) || decide ((q.2.1 k).2.1 ≠ (q.2.1 b).2.1)))
set_option maxRecDepth 100000 in
theorem mj_clsT : (List.range 13).all (fun ci => match vwCl[ci]? with
  | some q => mj_clsB ci q
  | none => false) = true := by decide +kernel
def mj_flB (o : Nat) (e : Nat × Nat × Nat) : Bool := match vwCl[e.2.1]? with
  | some q => decide (e.2.2 < q.2.2) && mj_gw (.fieldLink (mj_own.getD o "") e.1 (q.2.1 e.2.2).1 (q.2.1 e.2.2).2.1 (q.2.1 e.2.2).2.2.1)
  | none => false
set_option maxRecDepth 100000 in
theorem mj_flTT : (List.range 14).all (fun o => (mj_flT.getD o []).all (mj_flB o)) = true := by decide +kernel
set_option maxRecDepth 100000 in
theorem mj_ldTT : (List.range 14).all (fun o => (mj_ldT.getD o []).all (fun e => mj_gw (.constant (mj_own.getD o "") e.1 e.2))) = true := by decide +kernel
set_option maxRecDepth 100000 in
theorem mj_l2TT : (List.range 14).all (fun o => (mj_l2T.getD o []).all (fun e => mj_gw (.constantLong (mj_own.getD o "") e.1 e.2))) = true := by decide +kernel
