/-! CONSTRUCTORS: the kernel runs them on the memory without a script -/
def xokO (o : Option (Option Value × XM)) : Bool := match o with
  | some (none, _) => true
  | _ => false
def xmO (o : Option (Option Value × XM)) : XM := match o with
  | some q => q.2
  | none => xmh
theorem xopt (o : Option (Option Value × XM)) (h : xokO o = true) : o = some (none, xmO o) := by
  match o, h with
  | some (none, q), _ => rfl
noncomputable def xcA : Option (Option Value × XM) := xgo (xrun xP 4000) 1500 (xP 11 23) 0 [(0, .ref 40)] [] (xnew xmh 11 20)
noncomputable def xmA : XM := xmO xcA
theorem xcA_k : xokO xcA = true := by decide +kernel
theorem xcA_ok : xcA = some (none, xmA) := xopt xcA xcA_k
/-- how many cells, how many slots at most -/
def xokN (M : XM) (n k : Nat) : Bool := Nat.beq (xn M) n && Nat.ble (xw M) k
theorem xmA_n : xokN xmA 165 480000 = true := by decide +kernel
noncomputable def xcB : Option (Option Value × XM) := xgo (xrun xP 6000) 1500 (xP 21 30) 0 [(0, .ref 165)] [] (xnew xmA 21 51)
noncomputable def xmB : XM := xmO xcB
theorem xcB_k : xokO xcB = true := by decide +kernel
theorem xcB_ok : xcB = some (none, xmB) := xopt xcB xcB_k
theorem xmB_n : xokN xmB 302 480000 = true := by decide +kernel
