/-! zo -/
def T_Y_app : ZT := fun args I L R S Q => ∃ (a : Int) (p : Int) (o : Int) (ev : Int) (cn : Nat) (ro : Nat → Nat → Int), args = [zvr 165, zvi a, zvi p, zvi o] ∧ (zSh S) ∧ (zRs R) ∧ (r32 a ∧ r32 p ∧ r32 o) ∧ (I 280 8 = cn) ∧ (cn ≤ 10) ∧ (I 280 24 = ev) ∧ (0 ≤ ev ∧ ev ≤ 100) ∧ (∀ x p : Nat, x < cn → p < 16 → I 295 (16 * x + p) = ro x p + 1 ∧ -1 ≤ ro x p ∧ ro x p ≤ 3) ∧ ∀ (v : Int) (I' : ZI), (((0 ≤ a ∧ a < cn ∧ 0 ≤ p ∧ p < 16 ∧ 0 ≤ o ∧ o < 4) ∧ I' 165 0 = 0 ∧ ((v = 1 ∧ apr (roU ro a p o a.toNat)) ∨ (v = 0 ∧ ¬ apr (roU ro a p o a.toNat)))) ∨ (¬ (0 ≤ a ∧ a < cn ∧ 0 ≤ p ∧ p < 16 ∧ 0 ≤ o ∧ o < 4) ∧ I' 165 0 = 2 ∧ v = -1)) → (0 ≤ I' 280 24 ∧ I' 280 24 ≤ 100) → (∀ x y : Nat, x < cn → y < 16 → I' 295 (16 * x + y) = (if (0 ≤ a ∧ a < cn ∧ 0 ≤ p ∧ p < 16 ∧ 0 ≤ o ∧ o < 4) then roU ro a p o x y else ro x y) + 1) → (∀ c j : Nat, ¬ c = 295 → ¬ c = 298 → ¬ c = 299 → ¬ c = 300 → ¬ c = 301 → ¬ (c = 280 ∧ j = 0) → ¬ (c = 280 ∧ j = 24) → ¬ (c = 165 ∧ j = 0) → I' c j = I c j) → Q (some (zvi (v))) I' L R S
theorem sn_Y_app : ZSnd 3 21 1 T_Y_app := ZSnd.of (zT21_1 2) (by
  rintro args I L R S Q hz ⟨a, p, o, ev, cn, ro, rfl, hS, hR, ra, hc, hcn, hev, hev2, hro, hQ⟩
  refine And.intro rfl ?_
  refine And.intro (zA_165 hS) (zrdR (v := some 280) (zR_165_50 hR) ?_)
  refine And.intro (zA_280 hS) ⟨_, sn_B_approve.up (by decide), ?_⟩
  refine ⟨(a : Int), (p : Int), (o : Int), (ev : Int), _, _, rfl, hS, hR, (by omega), hc, (by omega), hev, (by omega), (by first | exact hro | exact (fun x p h2 h3 => ⟨rfl.trans (hro x p h2 h3).1, (hro x p h2 h3).2⟩) | (clear hQ; grind [xu])), ?_⟩
  intro v7o I7o p7hv p7bhe2 p7bbhr2 p7bbbfr
  have g7 : ((0 ≤ a ∧ a < cn ∧ 0 ≤ p ∧ p < 16 ∧ 0 ≤ o ∧ o < 4) ∧ I7o 280 0 = 0 ∧ 0 ≤ v7o ∧ v7o ≤ 1) ∨ (¬ (0 ≤ a ∧ a < cn ∧ 0 ≤ p ∧ p < 16 ∧ 0 ≤ o ∧ o < 4) ∧ (I7o 280 0 = 1 ∨ I7o 280 0 = 2)) := (by rcases p7hv with ⟨q1, q0, q2 | q2⟩ | q1; exact Or.inl ⟨q1, q0, by omega, by omega⟩; exact Or.inl ⟨q1, q0, by omega, by omega⟩; exact Or.inr q1)
  refine And.intro (zA_165 hS) (zrdR (v := some 280) (zR_165_50 hR) ?_)
  refine And.intro (zA_280 hS) (Exists.intro _ (And.intro (zinl_ok (zT19_33 1)) (And.intro rfl ?_)))
  refine And.intro (zA_280 hS) (fun v1_16 e1_16 r1_16 => ?_)
  refine And.intro r1_16 ⟨fun h19 => ?_, fun h19 => ?_⟩
  · refine And.intro (zA_165 hS) (Exists.intro _ (And.intro (zinl_ok (zT21_47 1)) (And.intro rfl ?_)))
    refine And.intro (zA_165 hS) ⟨_, (zWi (zRb rfl)), ?_⟩
    refine hQ _ _ ?_ p7bhe2 (fun x y hx hy => zxu (by omega) (p7bbhr2 x y hx hy)) (fun c j h0 h1 h2 h3 h4 h5 h6 h7 => (zxcj h7 ((p7bbbfr c j h0 h1 h2 h3 h4 h5 h6).trans rfl)))
    · rcases p7hv with ⟨q1, q0, q2⟩ | q1
      · first
        | (exfalso; omega)
        | exact Or.inl ⟨q1, zxe, q2⟩
      · first
        | (exfalso; omega)
        | exact Or.inr ⟨q1.1, zxe, rfl⟩
  · refine And.intro (zA_165 hS) (Exists.intro _ (And.intro (zinl_ok (zT21_12 1)) (And.intro rfl ?_)))
    refine And.intro (zA_165 hS) ⟨_, (zWi (zRb rfl)), ?_⟩
    refine hQ _ _ ?_ p7bhe2 (fun x y hx hy => zxu (by omega) (p7bbhr2 x y hx hy)) (fun c j h0 h1 h2 h3 h4 h5 h6 h7 => (zxcj h7 ((p7bbbfr c j h0 h1 h2 h3 h4 h5 h6).trans rfl)))
    · rcases p7hv with ⟨q1, q0, q2⟩ | q1
      · first
        | (exfalso; omega)
        | exact Or.inl ⟨q1, zxe, q2⟩
      · first
        | (exfalso; omega)
        | exact Or.inr ⟨q1.1, zxe, rfl⟩)
def T_Y_wit : ZT := fun args I L R S Q => ∃ (a : Int) (ev : Int) (wn : Int) (cn : Nat) (wd : Nat → Int), args = [zvr 165, zvi a] ∧ (zSh S) ∧ (zRs R) ∧ (r32 a) ∧ (I 280 8 = cn) ∧ (cn ≤ 10) ∧ (I 280 24 = ev) ∧ (0 ≤ ev ∧ ev ≤ 100) ∧ (I 280 21 = wn) ∧ (0 ≤ wn ∧ wn ≤ 100) ∧ (∀ x : Nat, x < cn → I 296 x = wd x ∧ (wd x = 0 ∨ wd x = 1)) ∧ ∀ (v : Int) (I' : ZI), ((¬ (0 ≤ a ∧ a < cn) ∧ v = 0 ∧ I' 165 0 = 2) ∨ ((0 ≤ a ∧ a < cn) ∧ ((¬ wd a.toNat = 0 ∧ v = 0 ∧ I' 165 0 = 4) ∨ (wd a.toNat = 0 ∧ v = 1 ∧ I' 165 0 = 0)))) → (0 ≤ I' 280 24 ∧ I' 280 24 ≤ 100) → (∀ x : Nat, x < cn → I' 296 x = if 0 ≤ a ∧ x = a.toNat then 1 else wd x) → (I' 280 21 = if (0 ≤ a ∧ a < cn) ∧ wd a.toNat = 0 then wn + 1 else wn) → (∀ c j : Nat, ¬ c = 296 → ¬ (c = 280 ∧ j = 21) → ¬ c = 298 → ¬ c = 299 → ¬ c = 300 → ¬ c = 301 → ¬ (c = 280 ∧ j = 0) → ¬ (c = 280 ∧ j = 24) → ¬ (c = 165 ∧ j = 0) → I' c j = I c j) → Q (some (zvi (v))) I' L R S
theorem sn_Y_wit : ZSnd 3 21 79 T_Y_wit := ZSnd.of (zT21_79 2) (by
  rintro args I L R S Q hz ⟨a, ev, wn, cn, wd, rfl, hS, hR, ra, hc, hcn, hev, hev2, hwn, hwn2, hw, hQ⟩
  refine And.intro rfl ?_
  refine And.intro (zA_165 hS) (zrdR (v := some 280) (zR_165_50 hR) ?_)
  refine And.intro (zA_280 hS) ⟨_, sn_B_with.up (by decide), ?_⟩
  refine ⟨(a : Int), (ev : Int), (wn : Int), _, _, rfl, hS, hR, (by omega), hc, (by omega), hev, (by omega), hwn, (by omega), (by first | exact hw | exact (fun x h1 => ⟨rfl.trans (hw x h1).1, (hw x h1).2⟩) | (clear hQ; grind [xu])), ?_⟩
  intro v5o I5o p5hv p5bhe2 p5bbhw2 p5bbbfr
  have g5 : (¬ (0 ≤ a ∧ a < cn) ∧ I5o 280 0 = 1 ∧ I5o 280 21 = wn) ∨ ((0 ≤ a ∧ a < cn) ∧ I5o 280 0 = 0 ∧ ((¬ wd a.toNat = 0 ∧ v5o = -1 ∧ I5o 280 21 = wn) ∨ (wd a.toNat = 0 ∧ v5o = wn + 1 ∧ I5o 280 21 = wn + 1))) := p5hv
  refine And.intro (zA_165 hS) (zrdR (v := some 280) (zR_165_50 hR) ?_)
  refine And.intro (zA_280 hS) (Exists.intro _ (And.intro (zinl_ok (zT19_33 1)) (And.intro rfl ?_)))
  refine And.intro (zA_280 hS) (fun v1_14 e1_14 r1_14 => ?_)
  refine And.intro r1_14 ⟨fun h17 => ?_, fun h17 => ?_⟩
  · refine And.intro ⟨(by omega), (zRb rfl)⟩ ⟨fun h26 => ?_, fun h26 => ?_⟩
    · refine And.intro (zA_165 hS) (Exists.intro _ (And.intro (zinl_ok (zT21_48 1)) (And.intro rfl ?_)))
      refine And.intro (zA_165 hS) ⟨_, (zWi (zRb rfl)), ?_⟩
      refine And.intro (zRb rfl) (zbt rfl ?_)
      refine And.intro (Or.inl rfl) ?_
      refine And.intro (zRb rfl) (zbf rfl ?_)
      refine And.intro (Or.inr rfl) ?_
      refine hQ _ _ ?_ p5bhe2 (fun x hx => zxu (by omega) (p5bbhw2 x hx)) ?_ (fun c j h0 h1 h2 h3 h4 h5 h6 h7 h8 => (zxcj h8 ((p5bbbfr c j h0 h1 h2 h3 h4 h5 h6 h7).trans rfl)))
      · rcases p5hv with q1 | ⟨q1, q0, q2 | q2⟩
        · first
          | (exfalso; omega)
          | exact Or.inl ⟨q1.1, rfl, zxe⟩
        · first
          | (exfalso; omega)
          | exact Or.inr ⟨q1, Or.inl ⟨q2.1, rfl, zxe⟩⟩
        · first
          | (exfalso; omega)
          | exact Or.inr ⟨q1, Or.inr ⟨q2.1, rfl, zxe⟩⟩
      · refine (zxu (by decide) rfl).trans ?_
        rcases p5hv with q1 | ⟨q1, q0, q2 | q2⟩
        · rw [if_neg (fun q => q1.1 q.1)]; exact q1.2.2
        · rw [if_neg (fun q => q2.1 q.2)]; exact q2.2.2
        · rw [if_pos ⟨q1, q2.1⟩]; exact q2.2.2
    · refine And.intro (zA_165 hS) (Exists.intro _ (And.intro (zinl_ok (zT21_48 1)) (And.intro rfl ?_)))
      refine And.intro (zA_165 hS) ⟨_, (zWi (zRb rfl)), ?_⟩
      refine And.intro (zRb rfl) (zbf rfl ?_)
      refine And.intro (Or.inr rfl) ?_
      refine And.intro (zRb rfl) (zbt rfl ?_)
      refine And.intro (Or.inl rfl) ?_
      refine hQ _ _ ?_ p5bhe2 (fun x hx => zxu (by omega) (p5bbhw2 x hx)) ?_ (fun c j h0 h1 h2 h3 h4 h5 h6 h7 h8 => (zxcj h8 ((p5bbbfr c j h0 h1 h2 h3 h4 h5 h6 h7).trans rfl)))
      · rcases p5hv with q1 | ⟨q1, q0, q2 | q2⟩
        · first
          | (exfalso; omega)
          | exact Or.inl ⟨q1.1, rfl, zxe⟩
        · first
          | (exfalso; omega)
          | exact Or.inr ⟨q1, Or.inl ⟨q2.1, rfl, zxe⟩⟩
        · first
          | (exfalso; omega)
          | exact Or.inr ⟨q1, Or.inr ⟨q2.1, rfl, zxe⟩⟩
      · refine (zxu (by decide) rfl).trans ?_
        rcases p5hv with q1 | ⟨q1, q0, q2 | q2⟩
        · rw [if_neg (fun q => q1.1 q.1)]; exact q1.2.2
        · rw [if_neg (fun q => q2.1 q.2)]; exact q2.2.2
        · rw [if_pos ⟨q1, q2.1⟩]; exact q2.2.2
  · refine And.intro (zA_165 hS) (Exists.intro _ (And.intro (zinl_ok (zT21_48 1)) (And.intro rfl ?_)))
    refine And.intro (zA_165 hS) ⟨_, (zWi (zRb rfl)), ?_⟩
    refine And.intro (zRb rfl) (zbf rfl ?_)
    refine And.intro (Or.inr rfl) ?_
    refine And.intro (zRb rfl) (zbt rfl ?_)
    refine And.intro (Or.inl rfl) ?_
    refine hQ _ _ ?_ p5bhe2 (fun x hx => zxu (by omega) (p5bbhw2 x hx)) ?_ (fun c j h0 h1 h2 h3 h4 h5 h6 h7 h8 => (zxcj h8 ((p5bbbfr c j h0 h1 h2 h3 h4 h5 h6 h7).trans rfl)))
    · rcases p5hv with q1 | ⟨q1, q0, q2 | q2⟩
      · first
        | (exfalso; omega)
        | exact Or.inl ⟨q1.1, rfl, zxe⟩
      · first
        | (exfalso; omega)
        | exact Or.inr ⟨q1, Or.inl ⟨q2.1, rfl, zxe⟩⟩
      · first
        | (exfalso; omega)
        | exact Or.inr ⟨q1, Or.inr ⟨q2.1, rfl, zxe⟩⟩
    · refine (zxu (by decide) rfl).trans ?_
      rcases p5hv with q1 | ⟨q1, q0, q2 | q2⟩
      · rw [if_neg (fun q => q1.1 q.1)]; exact q1.2.2
      · rw [if_neg (fun q => q2.1 q.2)]; exact q2.2.2
      · rw [if_pos ⟨q1, q2.1⟩]; exact q2.2.2)
def T_Y_ser : ZT := fun args I L R S Q => ∃ (a : Int) (ev : Int) (se : Int) (cn : Nat) (wd : Nat → Int) (ro : Nat → Nat → Int), args = [zvr 165, zvi a] ∧ (zSh S) ∧ (zRs R) ∧ (r32 a) ∧ (I 280 8 = cn) ∧ (cn ≤ 10) ∧ (I 280 24 = ev) ∧ (0 ≤ ev ∧ ev ≤ 100) ∧ (I 280 22 = se) ∧ (0 ≤ se ∧ se ≤ 60) ∧ (∀ x : Nat, x < cn → I 296 x = wd x ∧ (wd x = 0 ∨ wd x = 1)) ∧ (∀ x p : Nat, x < cn → p < 16 → I 295 (16 * x + p) = ro x p + 1 ∧ -1 ≤ ro x p ∧ ro x p ≤ 3) ∧ ∀ (v : Int) (I' : ZI), ((¬ (0 ≤ a ∧ a < cn) ∧ v = -1 ∧ I' 165 0 = 2 ∧ I' 280 22 = se) ∨ ((0 ≤ a ∧ a < cn) ∧ ((se = 60 ∧ v = -1 ∧ I' 165 0 = 1 ∧ I' 280 22 = se) ∨ (se < 60 ∧ ((wd a.toNat = 0 ∧ apr (ro a.toNat) ∧ v = se ∧ I' 165 0 = 0 ∧ I' 280 22 = se + 1) ∨ (¬ (wd a.toNat = 0 ∧ apr (ro a.toNat)) ∧ v = -1 ∧ I' 165 0 = 5 ∧ I' 280 22 = se)))))) → (0 ≤ I' 280 24 ∧ I' 280 24 ≤ 100) → (∀ c j : Nat, ¬ c = 297 → ¬ (c = 280 ∧ j = 22) → ¬ c = 298 → ¬ c = 299 → ¬ c = 300 → ¬ c = 301 → ¬ (c = 280 ∧ j = 0) → ¬ (c = 280 ∧ j = 24) → ¬ (c = 165 ∧ j = 0) → I' c j = I c j) → Q (some (zvi (v))) I' L R S
theorem sn_Y_ser : ZSnd 3 21 68 T_Y_ser := ZSnd.of (zT21_68 2) (by
  rintro args I L R S Q hz ⟨a, ev, se, cn, wd, ro, rfl, hS, hR, ra, hc, hcn, hev, hev2, hse, hs2, hw, hro, hQ⟩
  refine And.intro rfl ?_
  refine And.intro (zA_165 hS) (zrdR (v := some 280) (zR_165_50 hR) ?_)
  refine And.intro (zA_280 hS) (Exists.intro _ (And.intro (zinl_ok (zT19_18 1)) (And.intro rfl ?_)))
  refine And.intro (by omega) ⟨fun h1_5 => ?_, fun h1_5 => ?_⟩
  · refine And.intro (Or.inl rfl) ?_
    refine And.intro (zRb rfl) (zbf rfl ?_)
    refine And.intro (zA_165 hS) (Exists.intro _ (And.intro (zinl_ok (zT21_47 1)) (And.intro rfl ?_)))
    refine And.intro (zA_165 hS) ⟨_, (zWi (zRb rfl)), ?_⟩
    refine hQ _ _ ?_ (by first | exact p40bhe2 | (have z9 := hev2; rw [← hev] at z9; exact z9)) (fun c j h0 h1 h2 h3 h4 h5 h6 h7 h8 => (zxcj h8 rfl))
    · first
      | exact Or.inl ⟨by omega, rfl, zxe, (zxu (by decide) rfl).trans hse⟩
      | exact Or.inr ⟨by omega, Or.inl ⟨by omega, rfl, zxe, (zxu (by decide) rfl).trans hse⟩⟩
      | (rcases p40hv with q1 | ⟨q1, q0, q2 | q2⟩
         · exfalso; omega
         · first
           | (exfalso; omega)
           | exact Or.inr ⟨q1, Or.inr ⟨q2.2.2.1, Or.inl ⟨q2.1, q2.2.1, q2.2.2.2.1, zxe, (zxu (by decide) rfl).trans q2.2.2.2.2⟩⟩⟩
         · first
           | (exfalso; omega)
           | exact Or.inr ⟨q1, Or.inr ⟨by omega, Or.inr ⟨fun q => q2.1 ⟨q.1, q.2, by omega⟩, rfl, zxe, (zxu (by decide) rfl).trans q2.2.2⟩⟩⟩)
  · refine And.intro (zA_280 hS) (zrd (v := cn) hc ?_)
    refine And.intro ⟨(by omega), (by omega)⟩ ⟨fun h9_5 => ?_, fun h9_5 => ?_⟩
    · refine And.intro (Or.inl rfl) ?_
      refine And.intro (zRb rfl) (zbf rfl ?_)
      refine And.intro (zA_165 hS) (Exists.intro _ (And.intro (zinl_ok (zT21_47 1)) (And.intro rfl ?_)))
      refine And.intro (zA_165 hS) ⟨_, (zWi (zRb rfl)), ?_⟩
      refine hQ _ _ ?_ (by first | exact p40bhe2 | (have z9 := hev2; rw [← hev] at z9; exact z9)) (fun c j h0 h1 h2 h3 h4 h5 h6 h7 h8 => (zxcj h8 rfl))
      · first
        | exact Or.inl ⟨by omega, rfl, zxe, (zxu (by decide) rfl).trans hse⟩
        | exact Or.inr ⟨by omega, Or.inl ⟨by omega, rfl, zxe, (zxu (by decide) rfl).trans hse⟩⟩
        | (rcases p40hv with q1 | ⟨q1, q0, q2 | q2⟩
           · exfalso; omega
           · first
             | (exfalso; omega)
             | exact Or.inr ⟨q1, Or.inr ⟨q2.2.2.1, Or.inl ⟨q2.1, q2.2.1, q2.2.2.2.1, zxe, (zxu (by decide) rfl).trans q2.2.2.2.2⟩⟩⟩
           · first
             | (exfalso; omega)
             | exact Or.inr ⟨q1, Or.inr ⟨by omega, Or.inr ⟨fun q => q2.1 ⟨q.1, q.2, by omega⟩, rfl, zxe, (zxu (by decide) rfl).trans q2.2.2⟩⟩⟩)
    · refine And.intro (Or.inr rfl) ?_
      refine And.intro (zRb rfl) (zbt rfl ?_)
      refine And.intro (zA_165 hS) (zrdR (v := some 280) (zR_165_50 hR) ?_)
      refine And.intro (zA_280 hS) (zrd (v := se) hse ?_)
      refine And.intro ⟨(by omega), (zRb rfl)⟩ ⟨fun h26 => ?_, fun h26 => ?_⟩
      · refine And.intro (zA_165 hS) (zrdR (v := some 280) (zR_165_50 hR) ?_)
        refine And.intro (zA_280 hS) ⟨_, sn_B_serial.up (by decide), ?_⟩
        refine ⟨(a : Int), (ev : Int), (se : Int), _, _, _, rfl, hS, hR, (by omega), hc, (by omega), hev, (by omega), hse, (by omega), (by first | exact hw | exact (fun x h1 => ⟨rfl.trans (hw x h1).1, (hw x h1).2⟩) | (clear hQ; grind [xu])), (by first | exact hro | exact (fun x p h2 h3 => ⟨rfl.trans (hro x p h2 h3).1, (hro x p h2 h3).2⟩) | (clear hQ; grind [xu])), ?_⟩
        intro v40o I40o p40hv p40bhe2 p40bbfr
        have g40 : (¬ (0 ≤ a ∧ a < cn) ∧ I40o 280 0 = 1 ∧ I40o 280 22 = se) ∨ ((0 ≤ a ∧ a < cn) ∧ I40o 280 0 = 0 ∧ ((v40o = se ∧ I40o 280 22 = se + 1) ∨ (v40o = -1 ∧ I40o 280 22 = se))) := (by rcases p40hv with q1 | ⟨q1, q0, q2 | q2⟩; exact Or.inl q1; exact Or.inr ⟨q1, q0, Or.inl ⟨q2.2.2.2.1, q2.2.2.2.2⟩⟩; exact Or.inr ⟨q1, q0, Or.inr ⟨q2.2.1, q2.2.2⟩⟩)
        refine And.intro ⟨(by omega), (zRb rfl)⟩ ⟨fun h46 => ?_, fun h46 => ?_⟩
        · refine And.intro (zA_165 hS) (Exists.intro _ (And.intro (zinl_ok (zT21_12 1)) (And.intro rfl ?_)))
          refine And.intro (zA_165 hS) ⟨_, (zWi (zRb rfl)), ?_⟩
          refine hQ _ _ ?_ (by first | exact p40bhe2 | (have z9 := hev2; rw [← hev] at z9; exact z9)) (fun c j h0 h1 h2 h3 h4 h5 h6 h7 h8 => (zxcj h8 ((p40bbfr c j h0 h1 h2 h3 h4 h5 h6 h7).trans rfl)))
          · first
            | exact Or.inl ⟨by omega, rfl, zxe, (zxu (by decide) rfl).trans hse⟩
            | exact Or.inr ⟨by omega, Or.inl ⟨by omega, rfl, zxe, (zxu (by decide) rfl).trans hse⟩⟩
            | (rcases p40hv with q1 | ⟨q1, q0, q2 | q2⟩
               · exfalso; omega
               · first
                 | (exfalso; omega)
                 | exact Or.inr ⟨q1, Or.inr ⟨q2.2.2.1, Or.inl ⟨q2.1, q2.2.1, q2.2.2.2.1, zxe, (zxu (by decide) rfl).trans q2.2.2.2.2⟩⟩⟩
               · first
                 | (exfalso; omega)
                 | exact Or.inr ⟨q1, Or.inr ⟨by omega, Or.inr ⟨fun q => q2.1 ⟨q.1, q.2, by omega⟩, rfl, zxe, (zxu (by decide) rfl).trans q2.2.2⟩⟩⟩)
        · refine And.intro (zA_165 hS) (Exists.intro _ (And.intro (zinl_ok (zT21_47 1)) (And.intro rfl ?_)))
          refine And.intro (zA_165 hS) ⟨_, (zWi (zRb rfl)), ?_⟩
          refine hQ _ _ ?_ (by first | exact p40bhe2 | (have z9 := hev2; rw [← hev] at z9; exact z9)) (fun c j h0 h1 h2 h3 h4 h5 h6 h7 h8 => (zxcj h8 ((p40bbfr c j h0 h1 h2 h3 h4 h5 h6 h7).trans rfl)))
          · first
            | exact Or.inl ⟨by omega, rfl, zxe, (zxu (by decide) rfl).trans hse⟩
            | exact Or.inr ⟨by omega, Or.inl ⟨by omega, rfl, zxe, (zxu (by decide) rfl).trans hse⟩⟩
            | (rcases p40hv with q1 | ⟨q1, q0, q2 | q2⟩
               · exfalso; omega
               · first
                 | (exfalso; omega)
                 | exact Or.inr ⟨q1, Or.inr ⟨q2.2.2.1, Or.inl ⟨q2.1, q2.2.1, q2.2.2.2.1, zxe, (zxu (by decide) rfl).trans q2.2.2.2.2⟩⟩⟩
               · first
                 | (exfalso; omega)
                 | exact Or.inr ⟨q1, Or.inr ⟨by omega, Or.inr ⟨fun q => q2.1 ⟨q.1, q.2, by omega⟩, rfl, zxe, (zxu (by decide) rfl).trans q2.2.2⟩⟩⟩)
      · refine And.intro (zA_165 hS) (Exists.intro _ (And.intro (zinl_ok (zT21_47 1)) (And.intro rfl ?_)))
        refine And.intro (zA_165 hS) ⟨_, (zWi (zRb rfl)), ?_⟩
        refine hQ _ _ ?_ (by first | exact p40bhe2 | (have z9 := hev2; rw [← hev] at z9; exact z9)) (fun c j h0 h1 h2 h3 h4 h5 h6 h7 h8 => (zxcj h8 rfl))
        · first
          | exact Or.inl ⟨by omega, rfl, zxe, (zxu (by decide) rfl).trans hse⟩
          | exact Or.inr ⟨by omega, Or.inl ⟨by omega, rfl, zxe, (zxu (by decide) rfl).trans hse⟩⟩
          | (rcases p40hv with q1 | ⟨q1, q0, q2 | q2⟩
             · exfalso; omega
             · first
               | (exfalso; omega)
               | exact Or.inr ⟨q1, Or.inr ⟨q2.2.2.1, Or.inl ⟨q2.1, q2.2.1, q2.2.2.2.1, zxe, (zxu (by decide) rfl).trans q2.2.2.2.2⟩⟩⟩
             · first
               | (exfalso; omega)
               | exact Or.inr ⟨q1, Or.inr ⟨by omega, Or.inr ⟨fun q => q2.1 ⟨q.1, q.2, by omega⟩, rfl, zxe, (zxu (by decide) rfl).trans q2.2.2⟩⟩⟩))
def T_Y_roo : ZT := fun args I L R S Q => ∃ (a : Int) (i : Int) (cn : Nat) (d : Nat → Nat → Int), args = [zvr 165, zvi a, zvi i] ∧ (zSh S) ∧ (zRs R) ∧ (r32 a ∧ r32 i) ∧ (I 280 8 = cn) ∧ (cn ≤ 10) ∧ (∀ r j : Nat, r < cn → j < 32 → I 292 (32 * r + j) = d r j) ∧ ∀ (v : Int) (I' : ZI), (v = if 0 ≤ a ∧ a < cn ∧ 0 ≤ i ∧ i < 32 then d a.toNat i.toNat else -1) → (∀ c j : Nat, ¬ (c = 280 ∧ j = 0) → I' c j = I c j) → Q (some (zvi (v))) I' L R S
theorem sn_Y_roo : ZSnd 3 21 54 T_Y_roo := ZSnd.of (zT21_54 2) (by
  rintro args I L R S Q hz ⟨a, i, cn, d, rfl, hS, hR, ra, hc, hcn, hd, hQ⟩
  refine And.intro rfl ?_
  refine And.intro (zA_165 hS) (zrdR (v := some 280) (zR_165_50 hR) ?_)
  refine And.intro (zA_280 hS) ⟨_, sn_B_root.up (by decide), ?_⟩
  refine ⟨(a : Int), (i : Int), _, _, rfl, hS, hR, (by omega), hc, (by omega), (by first | exact hd | exact (fun r j h2 h3 => rfl.trans (hd r j h2 h3)) | (clear hQ; grind [xu])), ?_⟩
  intro v6o I6o p6hv p6bfr
  have g6 : ((0 ≤ a ∧ a < cn ∧ 0 ≤ i ∧ i < 32) ∧ I6o 280 0 = 0) ∨ (¬ (0 ≤ a ∧ a < cn ∧ 0 ≤ i ∧ i < 32) ∧ I6o 280 0 = 1) := (by rcases p6hv with q1 | q1; exact Or.inl ⟨q1.1, q1.2.1⟩; exact Or.inr q1)
  refine And.intro (zA_165 hS) (zrdR (v := some 280) (zR_165_50 hR) ?_)
  refine And.intro (zA_280 hS) (Exists.intro _ (And.intro (zinl_ok (zT19_33 1)) (And.intro rfl ?_)))
  refine And.intro (zA_280 hS) (fun v1_14 e1_14 r1_14 => ?_)
  refine And.intro r1_14 ⟨fun h17 => ?_, fun h17 => ?_⟩
  · refine hQ _ _ ?_ (fun c j h0 => ((p6bfr c j h0).trans rfl))
    · rcases p6hv with q1 | q1
      · first
        | (exfalso; omega)
        | (rw [if_pos q1.1]; exact q1.2.2)
      · first
        | (exfalso; omega)
        | rw [if_neg q1.1]
  · refine hQ _ _ ?_ (fun c j h0 => ((p6bfr c j h0).trans rfl))
    · rcases p6hv with q1 | q1
      · first
        | (exfalso; omega)
        | (rw [if_pos q1.1]; exact q1.2.2)
      · first
        | (exfalso; omega)
        | rw [if_neg q1.1])
def T_Y_prf : ZT := fun args I L R S Q => ∃ (a : Int) (k : Int) (i : Int) (cn : Nat) (t : Nat → Nat → Int) (n : Nat → Nat), args = [zvr 165, zvi a, zvi k, zvi i] ∧ (zSh S) ∧ (zRs R) ∧ (r32 a ∧ r32 k ∧ r32 i) ∧ (zRB cn t n I) ∧ ∀ (v : Int) (I' : ZI), (v = if 0 ≤ a ∧ a < cn ∧ 0 ≤ k ∧ k < rW (n a.toNat) 0 ∧ 0 ≤ i ∧ i < 1 + 33 * pfN (n a.toNat) k.toNat (rT (n a.toNat)) then pfB (t a.toNat) (n a.toNat) k.toNat (rT (n a.toNat)) i.toNat else -1) → (I' 280 2 = 0) → (∀ c j : Nat, ¬ c = 282 → ¬ c = 283 → ¬ c = 284 → ¬ c = 285 → ¬ c = 286 → ¬ c = 293 → ¬ (c = 280 ∧ j = 2) → ¬ (c = 280 ∧ j = 15) → ¬ (c = 280 ∧ j = 0) → ¬ (c = 280 ∧ j = 29) → ¬ (c = 280 ∧ j = 30) → ¬ (c = 280 ∧ j = 31) → I' c j = I c j) → Q (some (zvi (v))) I' L R S
theorem sn_Y_prf : ZSnd 6 21 45 T_Y_prf := ZSnd.of (zT21_45 5) (by
  rintro args I L R S Q hz ⟨a, k, i, cn, t, n, rfl, hS, hR, ra, hRB, hQ⟩
  refine And.intro rfl ?_
  refine And.intro (zA_165 hS) (zrdR (v := some 280) (zR_165_50 hR) ?_)
  refine And.intro (zA_280 hS) ⟨_, sn_B_proof.up (by decide), ?_⟩
  refine ⟨(a : Int), (k : Int), (i : Int), _, _, _, rfl, hS, hR, (by omega), (by first | exact hRB | (clear hQ; grind [xu])), ?_⟩
  intro v7o I7o p7hv p7bhz2 p7bbfr
  have g7 : (¬ (0 ≤ a ∧ a < cn ∧ 0 ≤ k ∧ k < rW (n a.toNat) 0 ∧ 0 ≤ i) ∧ I7o 280 0 = 1) ∨ ((0 ≤ a ∧ a < cn ∧ 0 ≤ k ∧ k < rW (n a.toNat) 0 ∧ 0 ≤ i) ∧ I7o 280 0 = 0) := (by rcases p7hv with q1 | q1; exact Or.inl q1; exact Or.inr ⟨q1.1, q1.2.1⟩)
  refine And.intro (zA_165 hS) (zrdR (v := some 280) (zR_165_50 hR) ?_)
  refine And.intro (zA_280 hS) (Exists.intro _ (And.intro (zinl_ok (zT19_33 4)) (And.intro rfl ?_)))
  refine And.intro (zA_280 hS) (fun v1_16 e1_16 r1_16 => ?_)
  refine And.intro r1_16 ⟨fun h19 => ?_, fun h19 => ?_⟩
  · refine hQ _ _ ?_ p7bhz2 (fun c j h0 h1 h2 h3 h4 h5 h6 h7 h8 h9 h10 h11 => ((p7bbfr c j h0 h1 h2 h3 h4 h5 h6 h7 h8 h9 h10 h11).trans rfl))
    · rcases p7hv with q1 | q1
      · first
        | (exfalso; omega)
        | (rw [if_neg (fun q => q1.1 ⟨q.1, q.2.1, q.2.2.1, q.2.2.2.1, q.2.2.2.2.1⟩)])
      · first
        | (exfalso; omega)
        | (refine q1.2.2.trans ?_
           by_cases q9 : i < 1 + 33 * pfN (n a.toNat) k.toNat (rT (n a.toNat))
           · rw [if_pos q9, if_pos ⟨q1.1.1, q1.1.2.1, q1.1.2.2.1, q1.1.2.2.2.1, q1.1.2.2.2.2, q9⟩]
           · rw [if_neg q9, if_neg (fun q => q9 q.2.2.2.2.2)])
  · refine hQ _ _ ?_ p7bhz2 (fun c j h0 h1 h2 h3 h4 h5 h6 h7 h8 h9 h10 h11 => ((p7bbfr c j h0 h1 h2 h3 h4 h5 h6 h7 h8 h9 h10 h11).trans rfl))
    · rcases p7hv with q1 | q1
      · first
        | (exfalso; omega)
        | (rw [if_neg (fun q => q1.1 ⟨q.1, q.2.1, q.2.2.1, q.2.2.2.1, q.2.2.2.2.1⟩)])
      · first
        | (exfalso; omega)
        | (refine q1.2.2.trans ?_
           by_cases q9 : i < 1 + 33 * pfN (n a.toNat) k.toNat (rT (n a.toNat))
           · rw [if_pos q9, if_pos ⟨q1.1.1, q1.1.2.1, q1.1.2.2.1, q1.1.2.2.2.1, q1.1.2.2.2.2, q9⟩]
           · rw [if_neg q9, if_neg (fun q => q9 q.2.2.2.2.2)]))
def T_Y_tld : ZT := fun args I L R S Q => ∃ (d : Int), args = [zvr 165] ∧ (zSh S) ∧ (zRs R) ∧ (I 165 0 = d) ∧ Q (some (zvi (d))) I L R S
theorem sn_Y_tld : ZSnd 1 21 74 T_Y_tld := ZSnd.of (zT21_74 0) (by
  rintro args I L R S Q hz ⟨d, rfl, hS, hR, hd, hQ⟩
  refine And.intro rfl ?_
  refine And.intro (zA_165 hS) (zrd (v := d) hd ?_)
  refine hQ )
