/-! CONSTRUCTORS: the kernel runs them on the memory without a script -/
def xokO (o : Option (Option Value × XM)) : Bool := match o with
  | some (none, _) => true
  | _ => false
def xmO (o : Option (Option Value × XM)) : XM := match o with
  | some q => q.2
  | none => xmh
theorem xopt (o : Option (Option Value × XM)) (h : xokO o = true) : o = some (none, xmO o) := by
  match o, h with
  | some (none, q), _ => rfl
noncomputable def xcA : Option (Option Value × XM) := xgo (xrun xP 4000) 1500 (xP 11 23) 0 [(0, .ref 40)] [] (xnew xmh 11 20)
noncomputable def xmA : XM := xmO xcA
theorem xcA_k : xokO xcA = true := by decide +kernel
theorem xcA_ok : xcA = some (none, xmA) := xopt xcA xcA_k
