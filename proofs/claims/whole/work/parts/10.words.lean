/-! the words behind the link tables -/
def wIn (w : Cond) : Bool := lw_good.contains w
theorem wIn_of {w : Cond} (h : wIn w = true) : w ∈ lw_good := by
  unfold wIn at h
  simpa using h
def flW (t : Nat × Nat × Nat × Nat) : Bool := wIn (.fieldLink (kN t.1) t.2.1 (kT t.2.2.1 t.2.2.2).1 (kT t.2.2.1 t.2.2.2).2.1 (kT t.2.2.1 t.2.2.2).2.2.1) && Nat.blt 0 t.2.2.1 && Nat.ble t.2.2.1 12 && Nat.blt t.2.2.2 (kF t.2.2.1)
theorem fl_ok : flT.all flW = true := by decide +kernel
theorem ml_ok : mlT.all (fun t => wIn (.methodLink (kN t.1) t.2.1 (mY t.2.2)) && Nat.blt t.2.2 119) = true := by decide +kernel
def spN : Nat → MethodName := fun k => match k with
  | 900 => Lib.Math.max.name
  | 901 => Lib.Math.min.name
  | 902 => Lib.Math.abs.name
  | 903 => arraycopyName
  | _ => objectInit
theorem sp_ok : spT.all (fun t => wIn (.methodLink (kN t.1) t.2.1 (spN t.2.2)) && Nat.ble 900 t.2.2 && Nat.ble t.2.2 904) = true := by decide +kernel
theorem cl_ok : clT.all (fun t => wIn (.classLink (kN t.1) t.2.1 (kN t.2.2)) && Nat.blt 0 t.2.2 && Nat.ble t.2.2 12) = true := by decide +kernel
theorem ct_ok : ctT.all (fun t => wIn (.constant (kN t.1) t.2.1 t.2.2)) = true := by decide +kernel
theorem sys_ok : (wIn (.static Lib.Math.max.name) && wIn (.static Lib.Math.min.name) && wIn (.static Lib.Math.abs.name) && wIn (.initialized "java/lang/Math") && wIn (.code Lib.Math.max.name Lib.Math.max.code 2 (some .int)) && wIn (.code Lib.Math.min.name Lib.Math.min.code 2 (some .int)) && wIn (.code Lib.Math.abs.name Lib.Math.abs.code 1 (some .int)) && wIn (.native arraycopyName) && wIn (.static arraycopyName) && wIn (.initialized "java/lang/System") && wIn (.instanceMethod objectInit) && wIn (.code objectInit ⟨#[0xb1]⟩ 1 none) && wIn (.arrayClass .int) && wIn (.arrayClass .boolean)) = true := by decide +kernel
theorem k_ok : (List.range 12).all (fun k => wIn (.instantiable (kN (k + 1)) (kF (k + 1))) && wIn (.initialized (kN (k + 1))) && (u_ws (kN (k + 1)) (kT (k + 1)) (kF (k + 1))).all wIn) = true := by decide +kernel
