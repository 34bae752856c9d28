
/-! THE LAW'S STATE: what both sides hold, module by module -/
theorem ZSnd.imp {h c i : Nat} {T T' : ZT} (hT : ZSnd h c i T) (hi : ∀ args I L R S Q, zok I L → T' args I L R S Q → T args I L R S Q) : ZSnd h c i T' := fun d hd args I L R S Q hz g => hT d hd args I L R S Q hz (hi args I L R S Q hz g)
theorem ZSnd.alt {h c i : Nat} {T1 T2 T' : ZT} (h1 : ZSnd h c i T1) (h2 : ZSnd h c i T2) (hi : ∀ args I L R S Q, zok I L → T' args I L R S Q → T1 args I L R S Q ∨ T2 args I L R S Q) : ZSnd h c i T' := fun d hd args I L R S Q hz g => by
  rcases hi args I L R S Q hz g with q | q
  · exact h1 d hd args I L R S Q hz q
  · exact h2 d hd args I L R S Q hz q
theorem ZSnd.no {h c i : Nat} : ZSnd h c i (fun _ _ _ _ _ _ => False) := fun _ _ _ _ _ _ _ _ _ g => False.elim g
/-- told, tape -/
abbrev TpL : Type := Int × List Int
/-- reads, good reads, objects, form, page -/
abbrev RdL : Type := Nat × Nat × OoS × Int × List Int
/-- boards begun, the board, its drawing, routes called -/
abbrev BoL : Type := Nat × BdS × JdS × Nat
abbrev RuL : Type := Nat × (Nat → Nat → Int)
/-- cuts made, the latest: its copper, pads, rules, board, whether nothing was open -/
abbrev CuL : Type := Nat × List CuR × Nat × (Nat × (Nat → Nat → Int)) × Nat × Int
abbrev ScL : Type := List Int × DtT × (Int × Int × Int)
abbrev StL : Type := SvK × Nat × Nat
/-- releases, roles, withdrawn, serials -/
abbrev ReL : Type := (Nat × (Nat → Nat → Int) × (Nat → Nat)) × (Nat → Nat → Int) × (Nat → Int) × Int
abbrev LwS : Type := TpL × RdL × BoL × RuL × CuL × ScL × StL × ReL
def aT (x : TpL) (I : ZI) : Prop := I 40 3 = x.1 ∧ zTA x.2 I
def bT (x : TpL) (I : ZI) : Prop := I 165 0 = x.1 ∧ zTB x.2 I
def aR (x : RdL) (I L : ZI) (R : ZR) : Prop := (I 40 7 = x.1 ∧ I 63 15 = x.2.1) ∧ (∃ k u : Nat, ((k = 43 ∧ u = 52) ∨ (k = 52 ∧ u = 43)) ∧ (R 40 4 = some k ∧ R 40 5 = some u) ∧ zOB k x.2.2.1 I L ∧ zPG k x.2.2.2.2 I) ∧ (∃ ob : Nat → Int, zDA (oD x.2.2.1) ob I) ∧ zCf (oD x.2.2.1) I ∧ zCw (oD x.2.2.1) I
def bR (x : RdL) (I L : ZI) (R : ZR) (S : ZS) : Prop := ((I 165 5 = x.1 ∧ I 165 6 = x.2.1) ∧ I 168 1 = 0 ∧ I 181 1 = 1) ∧ (x.2.1 = 0 → I 165 4 = -1 ∧ R 165 7 = none) ∧ (x.2.1 ≠ 0 → I 165 4 = x.2.2.2.1 ∧ (x.2.2.2.1 = 0 → zOM 168 x.2.2.1 I L ∧ zOU 168 x.2.2.1 I ∧ zPS 168 x.2.2.1 x.2.2.2.2 I) ∧ (x.2.2.2.1 = 1 → zOM 181 x.2.2.1 I L ∧ zOU 181 x.2.2.1 I ∧ zPS 181 x.2.2.1 x.2.2.2.2 I) ∧ ∃ q : Nat, R 165 7 = some q ∧ zDy zT18 zF18 q R S ∧ 302 ≤ q ∧ zNJ q (oD x.2.2.1) I L ∧ zJO q (oD x.2.2.1) I)
def aB (x : BoL) (I L : ZI) : Prop := (x.1 ≠ 0 → zBA x.1 x.2.1 I L) ∧ I 82 0 = (x.1 : Int) - 1 ∧ (I 88 1 = 40 ∧ I 90 1 = 12) ∧ (x.1 = 0 → I 90 2 = 0)
def bB (x : BoL) (I L : ZI) (R : ZR) (S : ZS) : Prop := I 165 14 = x.1 ∧ (x.1 = 0 → R 165 12 = none ∧ R 165 13 = none) ∧ (x.1 ≠ 0 → ∃ g q : Nat, (R 165 12 = some g ∧ zDy zT17 zF17 g R S ∧ 302 ≤ g) ∧ (R 165 13 = some q ∧ zDy zT18 zF18 q R S ∧ 302 ≤ q ∧ q + 23 ≤ g) ∧ (zBB g (-1) x.2.1 I L ∧ zPB x.2.1 I) ∧ zNJ q x.2.2.1 I L ∧ zJO q x.2.2.1 I)
def aU (x : RuL) (I : ZI) : Prop := zRT 104 30 x.1 x.2 I
def bU (x : RuL) (I : ZI) : Prop := zMR x.1 x.2 I
/-- whether the latest cut is exact -/
noncomputable def lwE (x : CuL) : Int := @ite Int (x.2.2.2.2.2 = 1 ∧ ((cuAA x.2.1 x.2.2.1).length : Int) = 0 ∧ (cuSc x.2.1 x.2.2.1 : Int) = 0 ∧ viN (cuAl x.2.1 x.2.2.2.1.1 x.2.2.2.1.2) = 0) (Classical.propDecidable _) 1 0
def aC (x : CuL) (I : ZI) (R : ZR) : Prop := I 40 14 = x.1 ∧ (∃ k u : Nat, ((k = 106 ∧ u = 118) ∨ (k = 118 ∧ u = 106)) ∧ (R 40 12 = some k ∧ R 40 13 = some u) ∧ I k 0 = (x.2.2.2.2.1 : Int) - 1 ∧ (x.1 ≠ 0 → zUC k x.2.1 x.2.2.1 x.2.2.2.1.1 x.2.2.2.1.2 ((x.2.2.2.2.1 : Int) - 1) x.2.2.2.2.2 I)) ∧ (I 107 1 = 60 ∧ I 111 1 = 40) ∧ I 119 1 = 60 ∧ I 123 1 = 40
def bC (x : CuL) (I L : ZI) (R : ZR) (S : ZS) : Prop := (I 165 29 = x.1 ∧ 0 ≤ I 165 44 ∧ ∀ j : Nat, j < 20 → I 215 j = 0 ∨ I 215 j = 1) ∧ (x.1 = 0 → R 165 31 = none) ∧ (x.1 ≠ 0 → ∃ q : Nat, (R 165 31 = some q ∧ R 165 32 = some (q + 14) ∧ zDy zT15 zF15 q R S ∧ zDy zT14 zF14 (q + 14) R S ∧ 302 ≤ q) ∧ (zPc q x.2.1 x.2.2.1 I L ∧ zFY (q + 14) x.2.1 (cuAl x.2.1 x.2.2.2.1.1 x.2.2.2.1.2) I ∧ I 165 33 = I (q + 14) 19) ∧ (zMh x.2.1 I ∧ ∀ p : Nat, p < cuHc x.2.1 → I 211 p = cuOr x.2.1 p) ∧ I 165 34 = lwE x ∧ I 165 30 = x.2.2.2.2.1)
def aS (x : ScL) (I L : ZI) (R : ZR) : Prop := scA x.1 x.2.1 x.2.2 I L R
def bS (x : ScL) (I L : ZI) : Prop := scB x.1 x.2.1 x.2.2 I L
def aX (x : StL) (I : ZI) : Prop := zCL x.1.1 x.1.2.1 x.1.2.2.1 x.1.2.2.2 x.2.1 x.2.2 I
def bX (x : StL) (I : ZI) : Prop := zML x.1.1 x.1.2.1 x.1.2.2.1 x.1.2.2.2 x.2.1 I ∧ I 165 49 = x.2.2
def aE (x : ReL) (I : ZI) : Prop := zRA x.1.1 x.1.2.1 x.1.2.2 I ∧ (∀ r p : Nat, r < x.1.1 → p < 16 → I 158 (16 * r + p) = x.2.1 r p) ∧ (∀ r : Nat, r < x.1.1 → I 159 r = x.2.2.1 r) ∧ I 154 6 = x.2.2.2
/-- how many are withdrawn -/
def lwW (w : Nat → Int) : Nat → Int
  | 0 => 0
  | n + 1 => lwW w n + w n
def bE (x : ReL) (I : ZI) : Prop := (zRB x.1.1 x.1.2.1 x.1.2.2 I ∧ zRC x.1.1 x.1.2.1 x.1.2.2 I ∧ I 287 10 = 0) ∧ (∀ r p : Nat, r < x.1.1 → p < 16 → I 295 (16 * r + p) = x.2.1 r p + 1) ∧ (∀ r : Nat, r < x.1.1 → I 296 r = x.2.2.1 r) ∧ (∀ r : Nat, x.1.1 ≤ r → r < 10 → I 296 r = 0 ∧ ∀ p : Nat, p < 16 → I 295 (16 * r + p) = 0) ∧ (I 280 22 = x.2.2.2 ∧ I 280 21 = lwW x.2.2.1 x.1.1) ∧ 0 ≤ I 280 24 ∧ I 280 24 ≤ 100
/-- the reference's objects lie apart -/
def lwD (R : ZR) : Prop := (∀ g q : Nat, R 165 12 = some g → R 165 31 = some q → g + 19 ≤ q ∨ q + 32 ≤ g) ∧ (∀ g q : Nat, R 165 12 = some g → R 165 7 = some q → g + 19 ≤ q ∨ q + 23 ≤ g) ∧ (∀ c q : Nat, R 165 31 = some c → R 165 7 = some q → c + 32 ≤ q ∨ q + 23 ≤ c) ∧ (∀ c q : Nat, R 165 31 = some c → R 165 13 = some q → c + 32 ≤ q ∨ q + 23 ≤ c) ∧ ∀ p q : Nat, R 165 13 = some p → R 165 7 = some q → p = q ∨ p + 23 ≤ q
