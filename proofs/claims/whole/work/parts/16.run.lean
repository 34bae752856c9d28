/-! how a method runs -/
def xfind : XB → Nat → List XI × Nat
  | [], t => ([], t)
  | q :: r, t => if q.1 = t then (q.2.1, q.2.2) else xfind r t
/-- java.lang.Math's own -/
def xjn (k : Nat) : MethodName := match k with
  | 11 => Lib.Math.max.name
  | 12 => Lib.Math.min.name
  | 13 => Lib.Math.abs.name
  | 14 => Lib.MathLoose.max_long.x
  | 15 => Lib.MathLoose.min_long.x
  | _ => Lib.MathLoose.abs_long.x
def xJM : List (Nat × Nat × Nat) := [(9, 19, 12), (2, 171, 16), (3, 177, 16), (3, 240, 11), (3, 242, 12), (3, 221, 15), (3, 225, 14), (11, 191, 12), (11, 196, 11), (1, 195, 12), (1, 168, 11), (1, 276, 13), (8, 22, 12), (5, 70, 12)]
theorem xJM_ok : xsub tables_1 (xJM.map fun e => .methodLink (xcn e.1) e.2.1 (xjn e.2.2)) = true := by decide +kernel
def xs10 (i : Instr) (a b : Nat) (st : List Value) : Option (List Value) :=
  match i with
  | .invokestatic _ => if a = 999 then (match b with
    | 11 => match st with | .int y :: .int x :: r => if Nat.blt 8 (xcats r) = false then some (.int (if x < y then y else x) :: r) else none | _ => none
    | 12 => match st with | .int y :: .int x :: r => if Nat.blt 8 (xcats r) = false then some (.int (if y < x then y else x) :: r) else none | _ => none
    | 13 => match st with | .int x :: r => if Nat.blt 8 (xcats r) = false then some (.int (if 0 ≤ x then x else 0 - x) :: r) else none | _ => none
    | 14 => match st with | .long y :: .long x :: r => if Nat.blt 8 (xcats r) = false then some (.long (if y < x then x else y) :: r) else none | _ => none
    | 15 => match st with | .long y :: .long x :: r => if Nat.blt 8 (xcats r) = false then some (.long (if y < x then y else x) :: r) else none | _ => none
    | 16 => match st with | .long x :: r => if Nat.blt 8 (xcats r) = false then some (.long (if 0 < x then x else -x) :: r) else none | _ => none
    | _ => none) else none
  | _ => none
/-- the static arrays: 1 to 5 -/
def xgs (k : Nat) : String × String × String := match k with
  | 1 => ("BoardMill$SheetReade\x72", "TENS", "[J")
  | 2 => ("BoardMill$SheetReade\x72", "HOLDERS", "[I")
  | 3 => ("BoardMill$Cut", "RADII", "[I")
  | 4 => ("BoardMill$Releases", "START", "[I")
  | _ => ("BoardMill$Releases", "ROUND_WORDS", "[I")
def xGS : List (Nat × Nat × Nat) := [(5, 32, 4), (9, 129, 2), (9, 149, 1), (1, 165, 3), (5, 150, 5)]
theorem xGS_ok : xsub tables_1 (xGS.map fun e => .fieldLink (xcn e.1) e.2.1 (xgs e.2.2).1 (xgs e.2.2).2.1 (xgs e.2.2).2.2) = true := by decide +kernel
def xs11 (i : Instr) (a : Nat) (st : List Value) : Option (List Value) :=
  match i with
  | .getstatic _ => if 1 ≤ a ∧ a ≤ 5 then some (.ref a :: st) else none
  | _ => none
/-- System.arraycopy between two arrays of ints, or of longs -/
def xcpF {α : Type} (F : Nat → Nat → α) (ks kd sp dp n : Nat) : Nat → Nat → α := fun a => if a = kd then va_cpy (F ks) (F kd) sp dp n else F a
def xcpI (m : XM) (ks kd sp dp n : Nat) : XM := (xcpF m.1 ks kd sp dp n, m.2)
def xcpL (m : XM) (ks kd sp dp n : Nat) : XM := (m.1, xcpF m.2.1 ks kd sp dp n, m.2.2)
def xSC : List (Nat × Nat) := [(4, 180), (5, 92)]
theorem xSC_ok : xsub tables_1 (xSC.map fun e => .methodLink (xcn e.1) e.2 arraycopyName) = true := by decide +kernel
def xs12 (i : Instr) (a b : Nat) (st : List Value) (m : XM) : Option (List Value × XM) :=
  match i with
  | .invokestatic _ => if a = 999 ∧ b = 20 then (match st with
    | .int n :: .int dp :: .ref kd :: .int sp :: .ref ks :: r => if (x0 ≤ kd ∧ kd < xn m ∧ ks < xn m) ∧ (¬ n < 0 ∧ ¬ sp < 0 ∧ ¬ dp < 0) ∧ sp.toNatClampNeg + n.toNatClampNeg ≤ (xsh m ks).2 ∧ dp.toNatClampNeg + n.toNatClampNeg ≤ (xsh m kd).2 ∧ Nat.blt 8 (xcats r) = false then
      (if (xsh m ks).1 = 100 ∧ (xsh m kd).1 = 100 then some (r, xcpI m ks kd sp.toNatClampNeg dp.toNatClampNeg n.toNatClampNeg)
       else if (xsh m ks).1 = 101 ∧ (xsh m kd).1 = 101 then some (r, xcpL m ks kd sp.toNatClampNeg dp.toNatClampNeg n.toNatClampNeg) else none) else none
    | _ => none) else none
  | _ => none
/-- texts: laid on the stack; their length; a character -/
def xtn (k : Nat) : MethodName := match k with
  | 1 => ⟨"java/lang/String", "length", "()I"⟩
  | _ => ⟨"java/lang/String", "charAt", "(I)C"⟩
def xTL : List (Nat × Nat × Nat) := [(9, 121, 1), (9, 125, 2), (2, 119, 1), (2, 125, 2), (1, 326, 1), (1, 331, 2)]
theorem xTL_ok : xsub tables_1 (xTL.map fun e => .methodLink (xcn e.1) e.2.1 (xtn e.2.2)) = true := by decide +kernel
def xs13 (i : Instr) (a b : Nat) (st : List Value) : Option (List Value) :=
  match i with
  | .ldc _ => if a = 1 ∧ 10 ≤ b ∧ b < 39 then some (.ref b :: st) else none
  | .ldc_w _ => if a = 1 ∧ 10 ≤ b ∧ b < 39 then some (.ref b :: st) else none
  | .invokevirtual _ => if a = 999 then (match b with
    | 1 => match st with | .ref q :: r => if (10 ≤ q ∧ q < 39) ∧ Nat.blt 8 (xcats r) = false then some (.int (Int32.ofNat (tsb (q - 10)).length) :: r) else none | _ => none
    | 2 => match st with | .int j :: .ref q :: r => if (10 ≤ q ∧ q < 39) ∧ xin j (tsb (q - 10)).length = true ∧ Nat.blt 8 (xcats r) = false then some (.int (tsf (q - 10) j.toNatClampNeg) :: r) else none | _ => none
    | _ => none) else none
  | _ => none
/-- what else an instruction links: of the JDK -/
def xOkY (own : Nat) (x : XI) : Bool :=
  match x.2.1 with
  | .invokestatic idx => if x.2.2.1 = 999 ∧ x.2.2.2.1 ≤ 16 then xJM.contains (own, idx, x.2.2.2.1) else if x.2.2.1 = 999 ∧ x.2.2.2.1 = 20 then xSC.contains (own, idx) else true
  | .getstatic idx => xGS.contains (own, idx, x.2.2.1)
  | .ldc idx => if x.2.2.1 = 1 then (tsL.getD (x.2.2.2.1 - 10) (0, 0, "", [])).1 == own && (tsL.getD (x.2.2.2.1 - 10) (0, 0, "", [])).2.1 == idx else true
  | .ldc_w idx => if x.2.2.1 = 1 then (tsL.getD (x.2.2.2.1 - 10) (0, 0, "", [])).1 == own && (tsL.getD (x.2.2.2.1 - 10) (0, 0, "", [])).2.1 == idx else true
  | .invokevirtual idx => if x.2.2.1 = 999 then xTL.contains (own, idx, x.2.2.2.1) else true
  | _ => true
def xsim (w : XRow) (x : XI) (lv : List (Nat × Value)) (st : List Value) (m : XM) : Option (List (Nat × Value) × List Value × XM) :=
  match xs1 x.2.1 lv st with
  | some q => some (lv, q, m)
  | none => match xs6 x.2.1 x.2.2.1 x.2.2.2.1 st m with
    | some q => some (lv, q.1, q.2)
    | none => match xs2 x.2.1 st with
      | some q => some (lv, q, m)
      | none => match xs5 w.2.2.2.1 x.2.1 lv st with
        | some q => some (q.1, q.2, m)
        | none => match xs7 x.2.1 st m with
          | some q => some (lv, q.1, q.2)
          | none => match xs3 x.2.1 st with
            | some q => some (lv, q, m)
            | none => match xs4 x.2.1 st with
              | some q => some (lv, q, m)
              | none => match xs8 x.2.1 x.2.2.1 x.2.2.2.1 st m with
                | some q => some (lv, q.1, q.2)
                | none => match xs9 x.2.1 x.2.2.1 x.2.2.2.2 st with
                  | some q => some (lv, q, m)
                  | none => match xs10 x.2.1 x.2.2.1 x.2.2.2.1 st with
                    | some q => some (lv, q, m)
                    | none => match xs11 x.2.1 x.2.2.1 st with
                      | some q => some (lv, q, m)
                      | none => match xs12 x.2.1 x.2.2.1 x.2.2.2.1 st m with
                        | some q => some (lv, q.1, q.2)
                        | none => match xs13 x.2.1 x.2.2.1 x.2.2.2.1 st with
                          | some q => some (lv, q, m)
                          | none => none
def xcall (P : Nat → Nat → XRow) (i : Instr) (a b : Nat) (st : List Value) (m : XM) : Option (XRow × List Value × List Value) :=
  match i with
  | .invokevirtual _ => match st.drop (b % 64) with
    | .ref k :: r => if (x0 ≤ k ∧ k < xn m ∧ (xsh m k).1 = a) ∧ a < 22 ∧ Nat.blt 8 (xcats r) = false then some (P a (b / 64), .ref k :: (st.take (b % 64)).reverse, r) else none
    | _ => none
  | .invokespecial _ => match st.drop (b % 64) with
    | .ref k :: r => if a < 22 ∧ Nat.blt 8 (xcats r) = false then some (P a (b / 64), .ref k :: (st.take (b % 64)).reverse, r) else none
    | _ => none
  | .invokestatic _ => if a < 22 ∧ Nat.ble (b % 64) st.length = true ∧ Nat.blt 8 (xcats (st.drop (b % 64))) = false then some (P a (b / 64), (st.take (b % 64)).reverse, st.drop (b % 64)) else none
  | _ => none
def xret (ret : Option FieldType) (i : Instr) (st : List Value) : Option (Option Value) :=
  match i with
  | .return_ => match st with | [] => (match ret with | none => some none | _ => none) | _ => none
  | .ireturn => match st with
    | [.int v] => (match ret with
      | some .int => some (some (.int v))
      | some .boolean => if v &&& 1 = v then some (some (.int v)) else none
      | some .char => if v.toUInt32.toUInt16.toUInt32.toInt32 = v then some (some (.int v)) else none
      | _ => none)
    | _ => none
  | .lreturn => match st with | [.long v] => (match ret with | some .long => some (some (.long v)) | _ => none) | _ => none
  | .areturn => match st with | [.ref k] => (match ret with | some (.object _) => some (some (.ref k)) | some (.array _) => some (some (.ref k)) | _ => none) | _ => none
  | _ => none
abbrev XRun : Type := Nat → XRow → List XI → Nat → List (Nat × Value) → List Value → XM → Option (Option Value × XM)
def xgo (ih : XRun) (d : Nat) (w : XRow) (t : Nat) (lv : List (Nat × Value)) (st : List Value) (m : XM) : Option (Option Value × XM) := ih d w (xfind w.2.2.2.2.2 t).1 (xfind w.2.2.2.2.2 t).2 lv st m
def xbody (P : Nat → Nat → XRow) (ih : XRun) : XRun := fun d w code fall lv st m =>
  match code with
  | [] => xgo ih d w fall lv st m
  | x :: r => match xsim w x lv st m with
    | some q => ih d w r fall q.1 q.2.1 q.2.2
    | none => match xbr x.1 x.2.1 st with
      | some q => (match q.1 with | some t => xgo ih d w t lv q.2 m | none => ih d w r fall lv q.2 m)
      | none => match xcall P x.2.1 x.2.2.1 x.2.2.2.1 st m with
        | some q => if Nat.ble (xcats q.2.1) q.1.2.2.2.1 = true then (match d with
          | 0 => none
          | d + 1 => match xgo ih d q.1 0 (lv_args 0 q.2.1) [] m with
            | some o => ih (d + 1) w r fall lv (o.1.toList ++ q.2.2) o.2
            | none => none) else none
        | none => match xret w.2.2.2.2.1 x.2.1 st with
          | some v => some (v, m)
          | none => none
noncomputable def xrun (P : Nat → Nat → XRow) (f : Nat) : XRun := Nat.rec (motive := fun _ => XRun) (fun _ _ _ _ _ _ _ => none) (fun _ ih => xbody P ih) f
/-- what is checked of a stretch, and of all of a row -/
def xGc (w : XRow) (pc : Nat) (code : List XI) (fall : Nat) : Prop := xOkC w pc code fall = true ∧ code.all (xOkY w.1) = true
def xRowY (w : XRow) : Bool := w.2.2.2.2.2.all fun q => q.2.1.all (xOkY w.1)
def xGood (w : XRow) : Prop := xRowOk w = true ∧ xRowY w = true
