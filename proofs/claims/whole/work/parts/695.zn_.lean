/-! zn_ -/
def T_Z_app : ZT := fun args I L R S Q => ∃ (a : Int) (p : Int) (o : Int) (cn : Nat) (ro : Nat → Nat → Int), args = [zvr 40, zvi a, zvi p, zvi o] ∧ (zSh S) ∧ (zRs R) ∧ (r32 a ∧ r32 p ∧ r32 o) ∧ (I 154 0 = cn) ∧ (cn ≤ 10) ∧ (∀ x p : Nat, x < cn → p < 16 → I 158 (16 * x + p) = ro x p ∧ -1 ≤ ro x p ∧ ro x p ≤ 3) ∧ ∀ (v : Int) (I' : ZI), (((0 ≤ a ∧ a < cn ∧ 0 ≤ p ∧ p < 16 ∧ 0 ≤ o ∧ o < 4) ∧ I' 40 3 = 0 ∧ ((v = 1 ∧ apr (roU ro a p o a.toNat)) ∨ (v = 0 ∧ ¬ apr (roU ro a p o a.toNat)))) ∨ (¬ (0 ≤ a ∧ a < cn ∧ 0 ≤ p ∧ p < 16 ∧ 0 ≤ o ∧ o < 4) ∧ I' 40 3 = 2 ∧ v = -1)) → (∀ x y : Nat, x < cn → y < 16 → I' 158 (16 * x + y) = if (0 ≤ a ∧ a < cn ∧ 0 ≤ p ∧ p < 16 ∧ 0 ≤ o ∧ o < 4) then roU ro a p o x y else ro x y) → (∀ c j : Nat, ¬ c = 158 → ¬ (c = 40 ∧ j = 3) → I' c j = I c j) → Q (some (zvi (v))) I' L R S
theorem sn_Z_app : ZSnd 3 11 2 T_Z_app := ZSnd.of (zT11_2 2) (by
  rintro args I L R S Q hz ⟨a, p, o, cn, ro, rfl, hS, hR, ra, hc, hcn, hro, hQ⟩
  refine And.intro rfl ?_
  refine And.intro (zA_40 hS) (zrdR (v := some 154) (zR_40_19 hR) ?_)
  refine And.intro (zA_154 hS) ⟨_, sn_A_take.up (by decide), ?_⟩
  refine ⟨(a : Int), (p : Int), (o : Int), _, _, rfl, hS, hR, (by omega), hc, (by omega), (by first | exact hro | exact (fun x p h2 h3 => ⟨rfl.trans (hro x p h2 h3).1, (hro x p h2 h3).2⟩) | (clear hQ; grind [xu])), ?_⟩
  intro v8o I8o p8hv p8bhr2 p8bbfr
  have g8 : -2 ≤ v8o ∧ v8o ≤ 1 := (by rcases p8hv with ⟨q1, q2 | q2⟩ | q1 <;> omega)
  refine And.intro (zA_40 hS) (Exists.intro _ (And.intro (zinl_ok (zT11_1 1)) (And.intro rfl ?_)))
  refine And.intro (by omega) ⟨fun h2_11 => ?_, fun h2_11 => ?_⟩
  · refine And.intro (zA_40 hS) ⟨_, (zWi (zRb rfl)), ?_⟩
    refine And.intro (by omega) ⟨fun h15_11 => ?_, (fun h15_11 => False.elim (by omega))⟩
    refine hQ _ _ ?_ (fun x y hx hy => (zxu (by omega) (p8bhr2 x y hx hy))) (fun c j h0 h1 => (zxcj h1 ((p8bbfr c j h0).trans rfl)))
    · rcases p8hv with ⟨q1, q2 | q2⟩ | q1
      · first
        | (exfalso; omega)
        | exact Or.inl ⟨q1, zxe, Or.inl q2⟩
      · first
        | (exfalso; omega)
        | exact Or.inl ⟨q1, zxe, Or.inr q2⟩
      · first
        | (exfalso; omega)
        | exact Or.inr ⟨q1.1, zxe.trans (by omega), rfl⟩
  · refine And.intro (zA_40 hS) ⟨_, (zWi (by omega)), ?_⟩
    refine And.intro (by omega) ⟨(fun h15_11 => False.elim (by omega)), fun h15_11 => ?_⟩
    refine hQ _ _ ?_ (fun x y hx hy => (zxu (by omega) (p8bhr2 x y hx hy))) (fun c j h0 h1 => (zxcj h1 ((p8bbfr c j h0).trans rfl)))
    · rcases p8hv with ⟨q1, q2 | q2⟩ | q1
      · first
        | (exfalso; omega)
        | exact Or.inl ⟨q1, zxe, Or.inl q2⟩
      · first
        | (exfalso; omega)
        | exact Or.inl ⟨q1, zxe, Or.inr q2⟩
      · first
        | (exfalso; omega)
        | exact Or.inr ⟨q1.1, zxe.trans (by omega), rfl⟩)
def T_Z_wit : ZT := fun args I L R S Q => ∃ (a : Int) (cn : Nat) (wd : Nat → Int), args = [zvr 40, zvi a] ∧ (zSh S) ∧ (zRs R) ∧ (r32 a) ∧ (I 154 0 = cn) ∧ (cn ≤ 10) ∧ (∀ x : Nat, x < cn → I 159 x = wd x ∧ (wd x = 0 ∨ wd x = 1)) ∧ ∀ (v : Int) (I' : ZI), ((¬ (0 ≤ a ∧ a < cn) ∧ v = 0 ∧ I' 40 3 = 2) ∨ ((0 ≤ a ∧ a < cn) ∧ ((¬ wd a.toNat = 0 ∧ v = 0 ∧ I' 40 3 = 4) ∨ (wd a.toNat = 0 ∧ v = 1 ∧ I' 40 3 = 0)))) → (∀ x : Nat, x < cn → I' 159 x = if 0 ≤ a ∧ x = a.toNat then 1 else wd x) → (∀ c j : Nat, ¬ c = 159 → ¬ (c = 40 ∧ j = 3) → I' c j = I c j) → Q (some (zvi (v))) I' L R S
theorem sn_Z_wit : ZSnd 3 11 56 T_Z_wit := ZSnd.of (zT11_56 2) (by
  rintro args I L R S Q hz ⟨a, cn, wd, rfl, hS, hR, ra, hc, hcn, hw, hQ⟩
  refine And.intro rfl ?_
  refine And.intro (zA_40 hS) (zrdR (v := some 154) (zR_40_19 hR) ?_)
  refine And.intro (zA_154 hS) ⟨_, sn_A_back.up (by decide), ?_⟩
  refine ⟨(a : Int), _, _, rfl, hS, hR, (by omega), hc, (by omega), (by first | exact hw | exact (fun x h1 => ⟨rfl.trans (hw x h1).1, (hw x h1).2⟩) | (clear hQ; grind [xu])), ?_⟩
  intro v6o I6o p6hv p6bhw2 p6bbfr
  have g6 : (¬ (0 ≤ a ∧ a < cn) ∧ v6o = -2) ∨ ((0 ≤ a ∧ a < cn) ∧ ((¬ wd a.toNat = 0 ∧ v6o = -4) ∨ (wd a.toNat = 0 ∧ v6o = 0))) := (by rw [p6hv]; by_cases q1 : 0 ≤ a ∧ a < cn; (rw [if_pos q1]; by_cases q2 : wd a.toNat = 0; (rw [if_pos q2]; exact Or.inr ⟨q1, Or.inr ⟨q2, rfl⟩⟩); (rw [if_neg q2]; exact Or.inr ⟨q1, Or.inl ⟨q2, rfl⟩⟩)); (rw [if_neg q1]; exact Or.inl ⟨q1, rfl⟩))
  have g6b : -4 ≤ v6o ∧ v6o ≤ 0 := (by omega)
  refine And.intro (zA_40 hS) (Exists.intro _ (And.intro (zinl_ok (zT11_22 1)) (And.intro rfl ?_)))
  refine And.intro (zA_40 hS) (Exists.intro _ (And.intro (zinl_ok (zT11_1 0)) (And.intro rfl ?_)))
  refine And.intro (by omega) ⟨fun h2_9_2 => ?_, fun h2_9_2 => ?_⟩
  · refine And.intro (zA_40 hS) ⟨_, (zWi (zRb rfl)), ?_⟩
    refine And.intro (by omega) ⟨fun h15_9_2 => ?_, (fun h15_9_2 => False.elim (by omega))⟩
    refine And.intro ⟨(by omega), (zRb rfl)⟩ ⟨(fun h6_9 => False.elim (by omega)), fun h6_9 => ?_⟩
    refine And.intro (Or.inr rfl) ?_
    refine And.intro (Or.inr rfl) ?_
    refine hQ _ _ ?_ (fun x hx => zxu (by omega) (p6bhw2 x hx)) (fun c j h0 h1 => (zxcj h1 ((p6bbfr c j h0).trans rfl)))
    · have z9 := zxe (f := I6o) (k := 40) (j := 3) (w := (0 : Int))
      rcases g6 with q1 | ⟨q1, q2 | q2⟩
      · first
        | (exfalso; omega)
        | exact Or.inl ⟨q1.1, rfl, zxe.trans (by omega)⟩
      · first
        | (exfalso; omega)
        | exact Or.inr ⟨q1, Or.inl ⟨q2.1, rfl, zxe.trans (by omega)⟩⟩
      · first
        | (exfalso; omega)
        | exact Or.inr ⟨q1, Or.inr ⟨q2.1, rfl, zxe⟩⟩
  · refine And.intro (zA_40 hS) ⟨_, (zWi (by omega)), ?_⟩
    refine And.intro (by omega) ⟨(fun h15_9_2 => False.elim (by omega)), fun h15_9_2 => ?_⟩
    refine And.intro ⟨(zRb rfl), (zRb rfl)⟩ (zbt rfl ?_)
    refine And.intro (Or.inl rfl) ?_
    refine And.intro (Or.inl rfl) ?_
    refine hQ _ _ ?_ (fun x hx => zxu (by omega) (p6bhw2 x hx)) (fun c j h0 h1 => (zxcj h1 ((p6bbfr c j h0).trans rfl)))
    · have z9 := zxe (f := I6o) (k := 40) (j := 3) (w := (0 : Int))
      rcases g6 with q1 | ⟨q1, q2 | q2⟩
      · first
        | (exfalso; omega)
        | exact Or.inl ⟨q1.1, rfl, zxe.trans (by omega)⟩
      · first
        | (exfalso; omega)
        | exact Or.inr ⟨q1, Or.inl ⟨q2.1, rfl, zxe.trans (by omega)⟩⟩
      · first
        | (exfalso; omega)
        | exact Or.inr ⟨q1, Or.inr ⟨q2.1, rfl, zxe⟩⟩)
def T_Z_ser : ZT := fun args I L R S Q => ∃ (a : Int) (cn : Nat) (se : Int) (wd : Nat → Int) (ro : Nat → Nat → Int), args = [zvr 40, zvi a] ∧ (zSh S) ∧ (zRs R) ∧ (r32 a) ∧ (I 154 0 = cn) ∧ (cn ≤ 10) ∧ (I 154 6 = se) ∧ (0 ≤ se ∧ se ≤ 60) ∧ (∀ x : Nat, x < cn → I 159 x = wd x ∧ (wd x = 0 ∨ wd x = 1)) ∧ (∀ x p : Nat, x < cn → p < 16 → I 158 (16 * x + p) = ro x p ∧ -1 ≤ ro x p ∧ ro x p ≤ 3) ∧ ∀ (v : Int) (I' : ZI), ((¬ (0 ≤ a ∧ a < cn) ∧ v = -1 ∧ I' 40 3 = 2 ∧ I' 154 6 = se) ∨ ((0 ≤ a ∧ a < cn) ∧ ((se = 60 ∧ v = -1 ∧ I' 40 3 = 1 ∧ I' 154 6 = se) ∨ (se < 60 ∧ ((wd a.toNat = 0 ∧ apr (ro a.toNat) ∧ v = se ∧ I' 40 3 = 0 ∧ I' 154 6 = se + 1) ∨ (¬ (wd a.toNat = 0 ∧ apr (ro a.toNat)) ∧ v = -1 ∧ I' 40 3 = 5 ∧ I' 154 6 = se)))))) → (∀ c j : Nat, ¬ (c = 154 ∧ j = 6) → ¬ (c = 40 ∧ j = 3) → I' c j = I c j) → Q (some (zvi (v))) I' L R S
theorem sn_Z_ser : ZSnd 3 11 46 T_Z_ser := ZSnd.of (zT11_46 2) (by
  rintro args I L R S Q hz ⟨a, cn, se, wd, ro, rfl, hS, hR, ra, hc, hcn, hse, hs2, hw, hro, hQ⟩
  refine And.intro rfl ?_
  refine And.intro (zA_40 hS) (zrdR (v := some 154) (zR_40_19 hR) ?_)
  refine And.intro (zA_154 hS) ⟨_, sn_A_next.up (by decide), ?_⟩
  refine ⟨(a : Int), _, (se : Int), _, _, rfl, hS, hR, (by omega), hc, (by omega), hse, (by omega), (by first | exact hw | exact (fun x h1 => ⟨rfl.trans (hw x h1).1, (hw x h1).2⟩) | (clear hQ; grind [xu])), (by first | exact hro | exact (fun x p h2 h3 => ⟨rfl.trans (hro x p h2 h3).1, (hro x p h2 h3).2⟩) | (clear hQ; grind [xu])), ?_⟩
  intro v6o I6o p6hv p6bhs3 p6bbfr
  have g6 : -5 ≤ v6o ∧ v6o ≤ 60 := (by rcases p6hv with q1 | ⟨q1, q2 | ⟨q2, q3 | q3⟩⟩ <;> omega)
  have g6b : (0 ≤ v6o ∧ I6o 154 6 = se + 1) ∨ (¬ 0 ≤ v6o ∧ I6o 154 6 = se) := (by by_cases q1 : 0 ≤ v6o; (rw [p6bhs3, if_pos q1]; exact Or.inl ⟨q1, rfl⟩); (rw [p6bhs3, if_neg q1]; exact Or.inr ⟨q1, rfl⟩))
  refine And.intro (zA_40 hS) (Exists.intro _ (And.intro (zinl_ok (zT11_1 1)) (And.intro rfl ?_)))
  refine And.intro (by omega) ⟨fun h2_9 => ?_, fun h2_9 => ?_⟩
  · refine And.intro (zA_40 hS) ⟨_, (zWi (zRb rfl)), ?_⟩
    refine And.intro (by omega) ⟨fun h15_9 => ?_, (fun h15_9 => False.elim (by omega))⟩
    refine hQ _ _ ?_ (fun c j h0 h1 => (zxcj h1 ((p6bbfr c j h0).trans rfl)))
    · rcases p6hv with q1 | ⟨q1, q2 | ⟨q2, q3 | q3⟩⟩
      · first
        | (exfalso; omega)
        | exact Or.inl ⟨q1.1, rfl, zxe.trans (by omega), (zxu (by decide) rfl).trans (by omega)⟩
      · first
        | (exfalso; omega)
        | exact Or.inr ⟨q1, Or.inl ⟨q2.1, rfl, zxe.trans (by omega), (zxu (by decide) rfl).trans (by omega)⟩⟩
      · first
        | (exfalso; omega)
        | exact Or.inr ⟨q1, Or.inr ⟨q2, Or.inl ⟨q3.1, q3.2.1, q3.2.2, zxe, (zxu (by decide) rfl).trans (by omega)⟩⟩⟩
      · first
        | (exfalso; omega)
        | exact Or.inr ⟨q1, Or.inr ⟨q2, Or.inr ⟨q3.1, rfl, zxe.trans (by omega), (zxu (by decide) rfl).trans (by omega)⟩⟩⟩
  · refine And.intro (zA_40 hS) ⟨_, (zWi (by omega)), ?_⟩
    refine And.intro (by omega) ⟨(fun h15_9 => False.elim (by omega)), fun h15_9 => ?_⟩
    refine hQ _ _ ?_ (fun c j h0 h1 => (zxcj h1 ((p6bbfr c j h0).trans rfl)))
    · rcases p6hv with q1 | ⟨q1, q2 | ⟨q2, q3 | q3⟩⟩
      · first
        | (exfalso; omega)
        | exact Or.inl ⟨q1.1, rfl, zxe.trans (by omega), (zxu (by decide) rfl).trans (by omega)⟩
      · first
        | (exfalso; omega)
        | exact Or.inr ⟨q1, Or.inl ⟨q2.1, rfl, zxe.trans (by omega), (zxu (by decide) rfl).trans (by omega)⟩⟩
      · first
        | (exfalso; omega)
        | exact Or.inr ⟨q1, Or.inr ⟨q2, Or.inl ⟨q3.1, q3.2.1, q3.2.2, zxe, (zxu (by decide) rfl).trans (by omega)⟩⟩⟩
      · first
        | (exfalso; omega)
        | exact Or.inr ⟨q1, Or.inr ⟨q2, Or.inr ⟨q3.1, rfl, zxe.trans (by omega), (zxu (by decide) rfl).trans (by omega)⟩⟩⟩)
def T_Z_roo : ZT := fun args I L R S Q => ∃ (a : Int) (i : Int) (cn : Nat) (t : Nat → Nat → Int) (n : Nat → Nat), args = [zvr 40, zvi a, zvi i] ∧ (zSh S) ∧ (zRs R) ∧ (r32 a) ∧ (r32 i) ∧ (zRA cn t n I) ∧ ∀ (v : Int), (v = if 0 ≤ a ∧ a < cn ∧ 0 ≤ i ∧ i < 32 then rD (t a.toNat) (n a.toNat) (rT (n a.toNat)) 0 i.toNat else -1) → Q (some (zvi (v))) I L R S
theorem sn_Z_roo : ZSnd 5 11 40 T_Z_roo := ZSnd.of (zT11_40 4) (by
  rintro args I L R S Q hz ⟨a, i, cn, t, n, rfl, hS, hR, ra, ri, hRA, hQ⟩
  refine And.intro rfl ?_
  refine And.intro (zA_40 hS) (zrdR (v := some 154) (zR_40_19 hR) ?_)
  refine And.intro (zA_154 hS) ⟨_, sn_A_rootByte.up (by decide), ?_⟩
  refine ⟨(a : Int), (i : Int), _, _, _, rfl, hS, hR, (by omega), (by omega), (by first | exact hRA | (clear hQ; grind [xu])), ?_⟩
  intro v6o p6hv
  refine hQ _ p6hv)
def T_Z_prf : ZT := fun args I L R S Q => ∃ (a : Int) (k : Int) (i : Int) (cn : Nat) (t : Nat → Nat → Int) (n : Nat → Nat), args = [zvr 40, zvi a, zvi k, zvi i] ∧ (zSh S) ∧ (zRs R) ∧ (r32 a ∧ r32 k ∧ r32 i) ∧ (zRA cn t n I) ∧ ∀ (v : Int) (I' : ZI), (v = if 0 ≤ a ∧ a < cn ∧ 0 ≤ k ∧ k < rW (n a.toNat) 0 ∧ 0 ≤ i ∧ i < 1 + 33 * pfN (n a.toNat) k.toNat (rT (n a.toNat)) then pfB (t a.toNat) (n a.toNat) k.toNat (rT (n a.toNat)) i.toNat else -1) → (∀ c j : Nat, ¬ c = 164 → ¬ (c = 154 ∧ j = 13) → I' c j = I c j) → Q (some (zvi (v))) I' L R S
theorem sn_Z_prf : ZSnd 5 11 34 T_Z_prf := ZSnd.of (zT11_34 4) (by
  rintro args I L R S Q hz ⟨a, k, i, cn, t, n, rfl, hS, hR, ra, hRA, hQ⟩
  refine And.intro rfl ?_
  refine And.intro (zA_40 hS) (zrdR (v := some 154) (zR_40_19 hR) ?_)
  refine And.intro (zA_154 hS) ⟨_, sn_A_proofByte.up (by decide), ?_⟩
  refine ⟨(a : Int), (k : Int), (i : Int), _, _, _, rfl, hS, hR, (by omega), (by first | exact hRA | (clear hQ; grind [xu])), ?_⟩
  intro v7o I7o p7hv p7bfr
  refine hQ _ _ p7hv (fun c j h0 h1 => ((p7bfr c j h0 h1).trans rfl)))
def T_Z_chk : ZT := fun args I L R S Q => ∃ (a : Int) (k : Int) (q : Int) (m : Int) (cn : Nat) (t : Nat → Nat → Int) (n : Nat → Nat), args = [zvr 40, zvi a, zvi k, zvi q, zvi m] ∧ (zSh S) ∧ (zRs R) ∧ (zSt I L) ∧ (r32 a ∧ r32 k ∧ r32 q ∧ r32 m) ∧ (zRA cn t n I) ∧ ∀ (v : Int) (I' : ZI), ((¬ (0 ≤ a ∧ a < cn ∧ 0 ≤ k ∧ k < rW (n a.toNat) 0 ∧ -1 ≤ q ∧ q < ckC (n a.toNat) k.toNat) ∧ v = -1) ∨ ((0 ≤ a ∧ a < cn ∧ 0 ≤ k ∧ k < rW (n a.toNat) 0 ∧ -1 ≤ q ∧ q < ckC (n a.toNat) k.toNat) ∧ ((v = 1 ∧ ckH cn t n (ckP (ckB (t a.toNat) (n a.toNat) a.toNat k.toNat) q m) (ckC (n a.toNat) k.toNat)) ∨ (v = 0 ∧ ¬ ckH cn t n (ckP (ckB (t a.toNat) (n a.toNat) a.toNat k.toNat) q m) (ckC (n a.toNat) k.toNat))))) → (∀ c j : Nat, ¬ c = 160 → ¬ c = 161 → ¬ c = 162 → ¬ c = 163 → ¬ c = 164 → ¬ (c = 154 ∧ j = 8) → ¬ (c = 154 ∧ j = 13) → I' c j = I c j) → Q (some (zvi (v))) I' L R S
theorem sn_Z_chk : ZSnd 7 11 6 T_Z_chk := ZSnd.of (zT11_6 6) (by
  rintro args I L R S Q hz ⟨a, k, q, m, cn, t, n, rfl, hS, hR, hT, ra, hRA, hQ⟩
  refine And.intro rfl ?_
  refine And.intro (zA_40 hS) (zrdR (v := some 154) (zR_40_19 hR) ?_)
  refine And.intro (zA_154 hS) ⟨_, sn_A_check.up (by decide), ?_⟩
  refine ⟨(a : Int), (k : Int), (q : Int), (m : Int), _, _, _, rfl, hS, hR, (zStf hT (fun c j h1 h2 => ⟨rfl, rfl⟩)), (by omega), (by first | exact hRA | (clear hQ; grind [xu])), ?_⟩
  intro v9o I9o p9hv p9bfr
  refine hQ _ _ p9hv (fun c j h0 h1 h2 h3 h4 h5 h6 => ((p9bfr c j h0 h1 h2 h3 h4 h5 h6).trans rfl)))
def T_Z_tld : ZT := fun args I L R S Q => ∃ (d : Int), args = [zvr 40] ∧ (zSh S) ∧ (zRs R) ∧ (I 40 3 = d) ∧ Q (some (zvi (d))) I L R S
theorem sn_Z_tld : ZSnd 1 11 52 T_Z_tld := ZSnd.of (zT11_52 0) (by
  rintro args I L R S Q hz ⟨d, rfl, hS, hR, hd, hQ⟩
  refine And.intro rfl ?_
  refine And.intro (zA_40 hS) (zrd (v := d) hd ?_)
  refine hQ )
