/-! what the tables say of the names: checked by program -/
def ax_fok (e : Nat × Nat × Nat × Bool × Nat) : Bool :=
  decide (e.2.1 < 6) && decide (e.2.2.1 < ax_N e.2.1) && decide ((ax_Tb e.2.1 e.2.2.1).1 = ax_own e.2.1) &&
  decide (lw_tbl[e.2.2.2.2]? = some (if e.2.2.2.1 = true then .fieldLinkNest (ax_own (e.1 / 1000)) (e.1 % 1000) (ax_own e.2.1) (ax_Tb e.2.1 e.2.2.1).2.1 (ax_Tb e.2.1 e.2.2.1).2.2.1 "PackageRules" else .fieldLink (ax_own (e.1 / 1000)) (e.1 % 1000) (ax_own e.2.1) (ax_Tb e.2.1 e.2.2.1).2.1 (ax_Tb e.2.1 e.2.2.1).2.2.1))
set_option maxRecDepth 100000 in
theorem ax_flok : ax_flL.all ax_fok = true := by decide +kernel
def ax_mok (e : Nat × ax_M × Bool × Nat × Nat × Nat × Nat × Nat × Nat) : Bool :=
  decide (lw_tbl[e.2.2.2.2.1]? = some (.methodLink (ax_own (e.1 / 1000)) (e.1 % 1000) e.2.1.2.1)) &&
  decide (lw_tbl[e.2.2.2.2.2.2.1]? = some (.initialized e.2.1.2.1.cls)) &&
  decide (lw_tbl[e.2.2.2.2.2.2.2.1]? = some (if e.2.2.1 = true then .static e.2.1.2.1 else .instanceMethod e.2.1.2.1)) &&
  (e.2.2.1 || decide (lw_tbl[e.2.2.2.2.2.2.2.2]? = some (.selects e.2.1.2.1.cls e.2.1.2.1 e.2.1.2.1))) &&
  decide (e.2.1.2.1.cls = ax_own e.2.1.1) && (e.2.2.1 || decide (e.2.1.1 < 6)) && plainName e.2.1.2.1.cls && decide (e.2.1.2.1.cls ≠ "java/lang/invoke/MethodHandle") && decide (e.2.1.2.1.cls ≠ "java/lang/invoke/VarHandle") &&
  decide ((parseMethodDescriptor e.2.1.2.1.desc).map (fun d => d.parameters.length) = some e.2.2.2.1) && decide (e.2.1.2.2.2.1 ≤ 40)
set_option maxRecDepth 100000 in
theorem ax_mloka : ax_mlLa.all ax_mok = true := by decide +kernel
set_option maxRecDepth 100000 in
theorem ax_mlokb : ax_mlLb.all ax_mok = true := by decide +kernel
set_option maxRecDepth 100000 in
theorem ax_usok : (List.range 6).all (fun ci => (u_ws (ax_own ci) (ax_Tb ci) (ax_N ci)).all (fun w => decide (w ∈ lw_tbl) && goodWord w)) = true := by decide +kernel
