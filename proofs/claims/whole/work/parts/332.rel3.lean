/-! rel3 -/
def T_A_isApp : ZT := fun args I L R S Q => ∃ (r : Int) (ro : Nat → Int), args = [zvr 154, zvi r] ∧ (zSh S) ∧ (zRs R) ∧ (0 ≤ r ∧ r < 10) ∧ (∀ p : Nat, p < 16 → I 158 (16 * r.toNat + p) = ro p ∧ -1 ≤ ro p ∧ ro p ≤ 3) ∧ ∀ (v : Int), ((v = 1 ∧ apr ro) ∨ (v = 0 ∧ ¬ apr ro)) → Q (some (zvi (v))) I L R S
theorem sn_A_isApp : ZSnd 1 5 8 T_A_isApp := ZSnd.loops (zT5_8 0) (by
  rintro args I L R S Q hz ⟨r, ro, rfl, hS, hR, h0, hro, hQ⟩
  refine ⟨[7], fun nM tM lsM stM I1 L1 R1 S1 => match tM with
      | 7 => ∃ (e : Int) (u : Int) (p : Int), nM = ((16 - p).toNat, 0, 0) ∧ lsM = [some (zvr (154)), some (zvi (r)), some (zvi (e)), some (zvi (u)), some (zvi (p)), none] ∧ stM = [] ∧ I1 = I ∧ L1 = L ∧ R1 = R ∧ S1 = S ∧ (0 ≤ p ∧ p ≤ 16) ∧ ((u = 0 ∨ u = 1)) ∧ (-1 ≤ e ∧ e ≤ 3) ∧ (∀ q : Nat, (q : Int) < p → ro q ≠ -1 → e ≠ -1) ∧ (e ≠ -1 → zex (fun q => (q : Int) < p ∧ ro q = e)) ∧ (u = 0 → ∀ q : Nat, (q : Int) < p → ro q ≠ -1 → ro q = e) ∧ (u = 1 → apr ro)
      | _ => False, rfl, ?_, ⟨?_, True.intro⟩⟩
  · refine ⟨((16 - (0 : Int)).toNat, 0, 0), [some (zvr (154)), some (zvi (r)), some (zvi (((-1) : Int))), some (zvi ((0 : Int))), some (zvi ((0 : Int))), none], ⟨rfl, rfl, (congrArg (fun z => some (zvi z)) (by omega)), rfl, rfl, rfl⟩, (-1), 0, 0, rfl, rfl, rfl, rfl, rfl, rfl, rfl, (by omega), (Or.inl rfl), (by omega), (fun q h => absurd h (by omega)), (fun h => absurd rfl h), (fun _ q h => absurd h (by omega)), (fun h => absurd h (by omega))⟩
  · rintro nM lsM stM I1 L1 R1 S1 hz1 ⟨e, u, p, rfl, rfl, rfl, rfl, rfl, rfl, rfl, hp, hu, he, h1, h2, h3, h4⟩
    refine And.intro ⟨(by omega), (zRb rfl)⟩ ⟨fun h11 => ?_, fun h11 => ?_⟩
    · refine And.intro (by omega) ?_
      refine hQ _ ?_
      · rcases hu with hu | hu
        · refine Or.inr ⟨hu, ?_⟩
          rintro ⟨q1, q2, w1, w2, w3, w4, w5⟩
          have := h3 hu q1 (by omega) w3
          have := h3 hu q2 (by omega) w4
          omega
        · exact Or.inl ⟨hu, h4 hu⟩
    · refine And.intro (zA_154 hS) (zrdR (v := some 158) (zR_154_4 hR) ?_)
      refine And.intro (zP_158 hS (by omega) (by omega)) (fun v25 e25 r25 => ?_)
      have f25 : -1 ≤ v25 ∧ v25 ≤ 3 ∧ v25 = ro p.toNat := (by have := hro p.toNat (by omega); rw [show (r * 16 + p).toNat = 16 * r.toNat + p.toNat by omega] at e25; omega)
      refine And.intro ⟨r25, (zRb rfl)⟩ ⟨fun h31 => ?_, fun h31 => ?_⟩
      · refine ⟨((16 - (p + 1)).toNat, 0, 0), zlt6 (by omega), [some (zvr (154)), some (zvi (r)), some (zvi (e)), some (zvi (u)), some (zvi ((p + 1))), none], ⟨rfl, rfl, rfl, rfl, rfl, rfl⟩, e, u, (p + 1), rfl, rfl, rfl, rfl, rfl, rfl, rfl, (by omega), (by first | exact hu | exact Or.inl rfl | exact Or.inr rfl), (by omega), ?_, ?_, ?_, ?_⟩
        · intro q h h9
          by_cases e : (q : Int) = p
          · have e2 : q = p.toNat := by omega
            subst e2
            omega
          · have := h1 q (by omega) h9
            omega
        · intro h9
          first
          | (exact Exists.intro p.toNat ⟨by omega, by omega⟩)
          | (obtain ⟨q, q1, q2⟩ := h2 h9; exact Exists.intro q ⟨by omega, q2⟩)
        · intro h9 q h h8
          by_cases e : (q : Int) = p
          · have e2 : q = p.toNat := by omega
            subst e2
            omega
          · have q1 := h1 q (by omega) h8
            have q3 := h3 (by omega) q (by omega) h8
            omega
        · intro h9
          first
          | exact h4 (by omega)
          | (obtain ⟨q, q1, q2⟩ := h2 (by omega)
             exact ⟨q, p.toNat, by omega, by omega, by omega, by omega, by omega⟩)
          | exact absurd h9 (by omega)
      · refine And.intro (by omega) ⟨fun h35 => ?_, fun h35 => ?_⟩
        · refine ⟨((16 - (p + 1)).toNat, 0, 0), zlt6 (by omega), [some (zvr (154)), some (zvi (r)), some (zvi (v25)), some (zvi ((1 : Int))), some (zvi ((p + 1))), none], ⟨rfl, rfl, rfl, rfl, rfl, rfl⟩, v25, 1, (p + 1), rfl, rfl, rfl, rfl, rfl, rfl, rfl, (by omega), (by first | exact hu | exact Or.inl rfl | exact Or.inr rfl), (by omega), ?_, ?_, ?_, ?_⟩
          · intro q h h9
            by_cases e : (q : Int) = p
            · have e2 : q = p.toNat := by omega
              subst e2
              omega
            · have := h1 q (by omega) h9
              omega
          · intro h9
            first
            | (exact Exists.intro p.toNat ⟨by omega, by omega⟩)
            | (obtain ⟨q, q1, q2⟩ := h2 h9; exact Exists.intro q ⟨by omega, q2⟩)
          · intro h9 q h h8
            by_cases e : (q : Int) = p
            · have e2 : q = p.toNat := by omega
              subst e2
              omega
            · have q1 := h1 q (by omega) h8
              have q3 := h3 (by omega) q (by omega) h8
              omega
          · intro h9
            first
            | exact h4 (by omega)
            | (obtain ⟨q, q1, q2⟩ := h2 (by omega)
               exact ⟨q, p.toNat, by omega, by omega, by omega, by omega, by omega⟩)
            | exact absurd h9 (by omega)
        · refine And.intro ⟨(by omega), (zRb rfl)⟩ ⟨fun h40 => ?_, fun h40 => ?_⟩
          · refine ⟨((16 - (p + 1)).toNat, 0, 0), zlt6 (by omega), [some (zvr (154)), some (zvi (r)), some (zvi (v25)), some (zvi ((0 : Int))), some (zvi ((p + 1))), none], ⟨rfl, rfl, rfl, rfl, rfl, rfl⟩, v25, 0, (p + 1), rfl, rfl, rfl, rfl, rfl, rfl, rfl, (by omega), (by first | exact hu | exact Or.inl rfl | exact Or.inr rfl), (by omega), ?_, ?_, ?_, ?_⟩
            · intro q h h9
              by_cases e : (q : Int) = p
              · have e2 : q = p.toNat := by omega
                subst e2
                omega
              · have := h1 q (by omega) h9
                omega
            · intro h9
              first
              | (exact Exists.intro p.toNat ⟨by omega, by omega⟩)
              | (obtain ⟨q, q1, q2⟩ := h2 h9; exact Exists.intro q ⟨by omega, q2⟩)
            · intro h9 q h h8
              by_cases e : (q : Int) = p
              · have e2 : q = p.toNat := by omega
                subst e2
                omega
              · have q1 := h1 q (by omega) h8
                have q3 := h3 (by omega) q (by omega) h8
                omega
            · intro h9
              first
              | exact h4 (by omega)
              | (obtain ⟨q, q1, q2⟩ := h2 (by omega)
                 exact ⟨q, p.toNat, by omega, by omega, by omega, by omega, by omega⟩)
              | exact absurd h9 (by omega)
          · refine And.intro ⟨(by omega), r25⟩ ⟨fun h46 => ?_, fun h46 => ?_⟩
            · refine ⟨((16 - (p + 1)).toNat, 0, 0), zlt6 (by omega), [some (zvr (154)), some (zvi (r)), some (zvi (v25)), some (zvi ((0 : Int))), some (zvi ((p + 1))), none], ⟨rfl, rfl, rfl, rfl, rfl, rfl⟩, v25, 0, (p + 1), rfl, rfl, rfl, rfl, rfl, rfl, rfl, (by omega), (by first | exact hu | exact Or.inl rfl | exact Or.inr rfl), (by omega), ?_, ?_, ?_, ?_⟩
              · intro q h h9
                by_cases e : (q : Int) = p
                · have e2 : q = p.toNat := by omega
                  subst e2
                  omega
                · have := h1 q (by omega) h9
                  omega
              · intro h9
                first
                | (exact Exists.intro p.toNat ⟨by omega, by omega⟩)
                | (obtain ⟨q, q1, q2⟩ := h2 h9; exact Exists.intro q ⟨by omega, q2⟩)
              · intro h9 q h h8
                by_cases e : (q : Int) = p
                · have e2 : q = p.toNat := by omega
                  subst e2
                  omega
                · have q1 := h1 q (by omega) h8
                  have q3 := h3 (by omega) q (by omega) h8
                  omega
              · intro h9
                first
                | exact h4 (by omega)
                | (obtain ⟨q, q1, q2⟩ := h2 (by omega)
                   exact ⟨q, p.toNat, by omega, by omega, by omega, by omega, by omega⟩)
                | exact absurd h9 (by omega)
            · refine ⟨((16 - (p + 1)).toNat, 0, 0), zlt6 (by omega), [some (zvr (154)), some (zvi (r)), some (zvi (v25)), some (zvi ((1 : Int))), some (zvi ((p + 1))), none], ⟨rfl, rfl, rfl, rfl, rfl, rfl⟩, v25, 1, (p + 1), rfl, rfl, rfl, rfl, rfl, rfl, rfl, (by omega), (by first | exact hu | exact Or.inl rfl | exact Or.inr rfl), (by omega), ?_, ?_, ?_, ?_⟩
              · intro q h h9
                by_cases e : (q : Int) = p
                · have e2 : q = p.toNat := by omega
                  subst e2
                  omega
                · have := h1 q (by omega) h9
                  omega
              · intro h9
                first
                | (exact Exists.intro p.toNat ⟨by omega, by omega⟩)
                | (obtain ⟨q, q1, q2⟩ := h2 h9; exact Exists.intro q ⟨by omega, q2⟩)
              · intro h9 q h h8
                by_cases e : (q : Int) = p
                · have e2 : q = p.toNat := by omega
                  subst e2
                  omega
                · have q1 := h1 q (by omega) h8
                  have q3 := h3 (by omega) q (by omega) h8
                  omega
              · intro h9
                first
                | exact h4 (by omega)
                | (obtain ⟨q, q1, q2⟩ := h2 (by omega)
                   exact ⟨q, p.toNat, by omega, by omega, by omega, by omega, by omega⟩)
                | exact absurd h9 (by omega))
def T_A_take : ZT := fun args I L R S Q => ∃ (a : Int) (p : Int) (o : Int) (cn : Nat) (ro : Nat → Nat → Int), args = [zvr 154, zvi a, zvi p, zvi o] ∧ (zSh S) ∧ (zRs R) ∧ (r32 a ∧ r32 p ∧ r32 o) ∧ (I 154 0 = cn) ∧ (cn ≤ 10) ∧ (∀ x p : Nat, x < cn → p < 16 → I 158 (16 * x + p) = ro x p ∧ -1 ≤ ro x p ∧ ro x p ≤ 3) ∧ ∀ (v : Int) (I' : ZI), (((0 ≤ a ∧ a < cn ∧ 0 ≤ p ∧ p < 16 ∧ 0 ≤ o ∧ o < 4) ∧ ((v = 1 ∧ apr (roU ro a p o a.toNat)) ∨ (v = 0 ∧ ¬ apr (roU ro a p o a.toNat)))) ∨ (¬ (0 ≤ a ∧ a < cn ∧ 0 ≤ p ∧ p < 16 ∧ 0 ≤ o ∧ o < 4) ∧ v = -2)) → (∀ x y : Nat, x < cn → y < 16 → I' 158 (16 * x + y) = if (0 ≤ a ∧ a < cn ∧ 0 ≤ p ∧ p < 16 ∧ 0 ≤ o ∧ o < 4) then roU ro a p o x y else ro x y) → (∀ c j : Nat, ¬ c = 158 → I' c j = I c j) → Q (some (zvi (v))) I' L R S
theorem sn_A_take : ZSnd 2 5 23 T_A_take := ZSnd.of (zT5_23 1) (by
  rintro args I L R S Q hz ⟨a, p, o, cn, ro, rfl, hS, hR, ra, hc, hcn, hro, hQ⟩
  refine And.intro rfl ?_
  refine And.intro (by omega) ⟨fun h1 => ?_, fun h1 => ?_⟩
  · refine And.intro (zA_154 hS) (Exists.intro _ (And.intro (zinl_ok (zT5_11 0)) (And.intro rfl ?_)))
    refine And.intro (by omega) ⟨fun h1_28 => ?_, fun h1_28 => ?_⟩
    · refine And.intro (Or.inl rfl) ?_
      refine And.intro (zRb rfl) (zbt rfl ?_)
      refine hQ _ _ ?_ ?_ (fun c j h0 => rfl)
      · first
        | exact Or.inr ⟨by omega, rfl⟩
        | (refine Or.inl ⟨by omega, Or.inl ⟨rfl, ?_⟩⟩
           rcases p56hv with h | h
           · exact h.2
           · exfalso; omega)
        | (refine Or.inl ⟨by omega, Or.inr ⟨rfl, ?_⟩⟩
           rcases p56hv with h | h
           · exfalso; omega
           · exact h.2)
      · intro x y hx hy
        first
        | exact ((hro x y hx hy).1).trans (if_neg (by omega)).symm
        | (rw [if_pos (by omega)]
           unfold roU
           split
           · next h => rw [show 16 * x + y = (a * 16 + p).toNat by omega]; exact zxe
           · next h => exact zxs (by omega) (hro x y hx hy).1)
    · refine And.intro (zA_154 hS) (zrd (v := cn) hc ?_)
      refine And.intro ⟨(by omega), (by omega)⟩ ⟨fun h9_28 => ?_, fun h9_28 => ?_⟩
      · refine And.intro (Or.inl rfl) ?_
        refine And.intro (zRb rfl) (zbt rfl ?_)
        refine hQ _ _ ?_ ?_ (fun c j h0 => rfl)
        · first
          | exact Or.inr ⟨by omega, rfl⟩
          | (refine Or.inl ⟨by omega, Or.inl ⟨rfl, ?_⟩⟩
             rcases p56hv with h | h
             · exact h.2
             · exfalso; omega)
          | (refine Or.inl ⟨by omega, Or.inr ⟨rfl, ?_⟩⟩
             rcases p56hv with h | h
             · exfalso; omega
             · exact h.2)
        · intro x y hx hy
          first
          | exact ((hro x y hx hy).1).trans (if_neg (by omega)).symm
          | (rw [if_pos (by omega)]
             unfold roU
             split
             · next h => rw [show 16 * x + y = (a * 16 + p).toNat by omega]; exact zxe
             · next h => exact zxs (by omega) (hro x y hx hy).1)
      · refine And.intro (Or.inr rfl) ?_
        refine And.intro (zRb rfl) (zbf rfl ?_)
        refine And.intro (zRb rfl) (zbf rfl ?_)
        refine hQ _ _ ?_ ?_ (fun c j h0 => rfl)
        · first
          | exact Or.inr ⟨by omega, rfl⟩
          | (refine Or.inl ⟨by omega, Or.inl ⟨rfl, ?_⟩⟩
             rcases p56hv with h | h
             · exact h.2
             · exfalso; omega)
          | (refine Or.inl ⟨by omega, Or.inr ⟨rfl, ?_⟩⟩
             rcases p56hv with h | h
             · exfalso; omega
             · exact h.2)
        · intro x y hx hy
          first
          | exact ((hro x y hx hy).1).trans (if_neg (by omega)).symm
          | (rw [if_pos (by omega)]
             unfold roU
             split
             · next h => rw [show 16 * x + y = (a * 16 + p).toNat by omega]; exact zxe
             · next h => exact zxs (by omega) (hro x y hx hy).1)
  · refine And.intro ⟨(by omega), (zRb rfl)⟩ ⟨fun h7 => ?_, fun h7 => ?_⟩
    · refine And.intro (zA_154 hS) (Exists.intro _ (And.intro (zinl_ok (zT5_11 0)) (And.intro rfl ?_)))
      refine And.intro (by omega) ⟨fun h1_28 => ?_, fun h1_28 => ?_⟩
      · refine And.intro (Or.inl rfl) ?_
        refine And.intro (zRb rfl) (zbt rfl ?_)
        refine hQ _ _ ?_ ?_ (fun c j h0 => rfl)
        · first
          | exact Or.inr ⟨by omega, rfl⟩
          | (refine Or.inl ⟨by omega, Or.inl ⟨rfl, ?_⟩⟩
             rcases p56hv with h | h
             · exact h.2
             · exfalso; omega)
          | (refine Or.inl ⟨by omega, Or.inr ⟨rfl, ?_⟩⟩
             rcases p56hv with h | h
             · exfalso; omega
             · exact h.2)
        · intro x y hx hy
          first
          | exact ((hro x y hx hy).1).trans (if_neg (by omega)).symm
          | (rw [if_pos (by omega)]
             unfold roU
             split
             · next h => rw [show 16 * x + y = (a * 16 + p).toNat by omega]; exact zxe
             · next h => exact zxs (by omega) (hro x y hx hy).1)
      · refine And.intro (zA_154 hS) (zrd (v := cn) hc ?_)
        refine And.intro ⟨(by omega), (by omega)⟩ ⟨fun h9_28 => ?_, fun h9_28 => ?_⟩
        · refine And.intro (Or.inl rfl) ?_
          refine And.intro (zRb rfl) (zbt rfl ?_)
          refine hQ _ _ ?_ ?_ (fun c j h0 => rfl)
          · first
            | exact Or.inr ⟨by omega, rfl⟩
            | (refine Or.inl ⟨by omega, Or.inl ⟨rfl, ?_⟩⟩
               rcases p56hv with h | h
               · exact h.2
               · exfalso; omega)
            | (refine Or.inl ⟨by omega, Or.inr ⟨rfl, ?_⟩⟩
               rcases p56hv with h | h
               · exfalso; omega
               · exact h.2)
          · intro x y hx hy
            first
            | exact ((hro x y hx hy).1).trans (if_neg (by omega)).symm
            | (rw [if_pos (by omega)]
               unfold roU
               split
               · next h => rw [show 16 * x + y = (a * 16 + p).toNat by omega]; exact zxe
               · next h => exact zxs (by omega) (hro x y hx hy).1)
        · refine And.intro (Or.inr rfl) ?_
          refine And.intro (zRb rfl) (zbf rfl ?_)
          refine And.intro (zRb rfl) (zbf rfl ?_)
          refine hQ _ _ ?_ ?_ (fun c j h0 => rfl)
          · first
            | exact Or.inr ⟨by omega, rfl⟩
            | (refine Or.inl ⟨by omega, Or.inl ⟨rfl, ?_⟩⟩
               rcases p56hv with h | h
               · exact h.2
               · exfalso; omega)
            | (refine Or.inl ⟨by omega, Or.inr ⟨rfl, ?_⟩⟩
               rcases p56hv with h | h
               · exfalso; omega
               · exact h.2)
          · intro x y hx hy
            first
            | exact ((hro x y hx hy).1).trans (if_neg (by omega)).symm
            | (rw [if_pos (by omega)]
               unfold roU
               split
               · next h => rw [show 16 * x + y = (a * 16 + p).toNat by omega]; exact zxe
               · next h => exact zxs (by omega) (hro x y hx hy).1)
    · refine And.intro (by omega) ⟨fun h11 => ?_, fun h11 => ?_⟩
      · refine And.intro (zA_154 hS) (Exists.intro _ (And.intro (zinl_ok (zT5_11 0)) (And.intro rfl ?_)))
        refine And.intro (by omega) ⟨fun h1_28 => ?_, fun h1_28 => ?_⟩
        · refine And.intro (Or.inl rfl) ?_
          refine And.intro (zRb rfl) (zbt rfl ?_)
          refine hQ _ _ ?_ ?_ (fun c j h0 => rfl)
          · first
            | exact Or.inr ⟨by omega, rfl⟩
            | (refine Or.inl ⟨by omega, Or.inl ⟨rfl, ?_⟩⟩
               rcases p56hv with h | h
               · exact h.2
               · exfalso; omega)
            | (refine Or.inl ⟨by omega, Or.inr ⟨rfl, ?_⟩⟩
               rcases p56hv with h | h
               · exfalso; omega
               · exact h.2)
          · intro x y hx hy
            first
            | exact ((hro x y hx hy).1).trans (if_neg (by omega)).symm
            | (rw [if_pos (by omega)]
               unfold roU
               split
               · next h => rw [show 16 * x + y = (a * 16 + p).toNat by omega]; exact zxe
               · next h => exact zxs (by omega) (hro x y hx hy).1)
        · refine And.intro (zA_154 hS) (zrd (v := cn) hc ?_)
          refine And.intro ⟨(by omega), (by omega)⟩ ⟨fun h9_28 => ?_, fun h9_28 => ?_⟩
          · refine And.intro (Or.inl rfl) ?_
            refine And.intro (zRb rfl) (zbt rfl ?_)
            refine hQ _ _ ?_ ?_ (fun c j h0 => rfl)
            · first
              | exact Or.inr ⟨by omega, rfl⟩
              | (refine Or.inl ⟨by omega, Or.inl ⟨rfl, ?_⟩⟩
                 rcases p56hv with h | h
                 · exact h.2
                 · exfalso; omega)
              | (refine Or.inl ⟨by omega, Or.inr ⟨rfl, ?_⟩⟩
                 rcases p56hv with h | h
                 · exfalso; omega
                 · exact h.2)
            · intro x y hx hy
              first
              | exact ((hro x y hx hy).1).trans (if_neg (by omega)).symm
              | (rw [if_pos (by omega)]
                 unfold roU
                 split
                 · next h => rw [show 16 * x + y = (a * 16 + p).toNat by omega]; exact zxe
                 · next h => exact zxs (by omega) (hro x y hx hy).1)
          · refine And.intro (Or.inr rfl) ?_
            refine And.intro (zRb rfl) (zbf rfl ?_)
            refine And.intro (zRb rfl) (zbf rfl ?_)
            refine hQ _ _ ?_ ?_ (fun c j h0 => rfl)
            · first
              | exact Or.inr ⟨by omega, rfl⟩
              | (refine Or.inl ⟨by omega, Or.inl ⟨rfl, ?_⟩⟩
                 rcases p56hv with h | h
                 · exact h.2
                 · exfalso; omega)
              | (refine Or.inl ⟨by omega, Or.inr ⟨rfl, ?_⟩⟩
                 rcases p56hv with h | h
                 · exfalso; omega
                 · exact h.2)
            · intro x y hx hy
              first
              | exact ((hro x y hx hy).1).trans (if_neg (by omega)).symm
              | (rw [if_pos (by omega)]
                 unfold roU
                 split
                 · next h => rw [show 16 * x + y = (a * 16 + p).toNat by omega]; exact zxe
                 · next h => exact zxs (by omega) (hro x y hx hy).1)
      · refine And.intro ⟨(by omega), (zRb rfl)⟩ ⟨fun h16 => ?_, fun h16 => ?_⟩
        · refine And.intro (zA_154 hS) (Exists.intro _ (And.intro (zinl_ok (zT5_11 0)) (And.intro rfl ?_)))
          refine And.intro (by omega) ⟨fun h1_28 => ?_, fun h1_28 => ?_⟩
          · refine And.intro (Or.inl rfl) ?_
            refine And.intro (zRb rfl) (zbt rfl ?_)
            refine hQ _ _ ?_ ?_ (fun c j h0 => rfl)
            · first
              | exact Or.inr ⟨by omega, rfl⟩
              | (refine Or.inl ⟨by omega, Or.inl ⟨rfl, ?_⟩⟩
                 rcases p56hv with h | h
                 · exact h.2
                 · exfalso; omega)
              | (refine Or.inl ⟨by omega, Or.inr ⟨rfl, ?_⟩⟩
                 rcases p56hv with h | h
                 · exfalso; omega
                 · exact h.2)
            · intro x y hx hy
              first
              | exact ((hro x y hx hy).1).trans (if_neg (by omega)).symm
              | (rw [if_pos (by omega)]
                 unfold roU
                 split
                 · next h => rw [show 16 * x + y = (a * 16 + p).toNat by omega]; exact zxe
                 · next h => exact zxs (by omega) (hro x y hx hy).1)
          · refine And.intro (zA_154 hS) (zrd (v := cn) hc ?_)
            refine And.intro ⟨(by omega), (by omega)⟩ ⟨fun h9_28 => ?_, fun h9_28 => ?_⟩
            · refine And.intro (Or.inl rfl) ?_
              refine And.intro (zRb rfl) (zbt rfl ?_)
              refine hQ _ _ ?_ ?_ (fun c j h0 => rfl)
              · first
                | exact Or.inr ⟨by omega, rfl⟩
                | (refine Or.inl ⟨by omega, Or.inl ⟨rfl, ?_⟩⟩
                   rcases p56hv with h | h
                   · exact h.2
                   · exfalso; omega)
                | (refine Or.inl ⟨by omega, Or.inr ⟨rfl, ?_⟩⟩
                   rcases p56hv with h | h
                   · exfalso; omega
                   · exact h.2)
              · intro x y hx hy
                first
                | exact ((hro x y hx hy).1).trans (if_neg (by omega)).symm
                | (rw [if_pos (by omega)]
                   unfold roU
                   split
                   · next h => rw [show 16 * x + y = (a * 16 + p).toNat by omega]; exact zxe
                   · next h => exact zxs (by omega) (hro x y hx hy).1)
            · refine And.intro (Or.inr rfl) ?_
              refine And.intro (zRb rfl) (zbf rfl ?_)
              refine And.intro (zRb rfl) (zbf rfl ?_)
              refine hQ _ _ ?_ ?_ (fun c j h0 => rfl)
              · first
                | exact Or.inr ⟨by omega, rfl⟩
                | (refine Or.inl ⟨by omega, Or.inl ⟨rfl, ?_⟩⟩
                   rcases p56hv with h | h
                   · exact h.2
                   · exfalso; omega)
                | (refine Or.inl ⟨by omega, Or.inr ⟨rfl, ?_⟩⟩
                   rcases p56hv with h | h
                   · exfalso; omega
                   · exact h.2)
              · intro x y hx hy
                first
                | exact ((hro x y hx hy).1).trans (if_neg (by omega)).symm
                | (rw [if_pos (by omega)]
                   unfold roU
                   split
                   · next h => rw [show 16 * x + y = (a * 16 + p).toNat by omega]; exact zxe
                   · next h => exact zxs (by omega) (hro x y hx hy).1)
        · refine And.intro (zA_154 hS) (Exists.intro _ (And.intro (zinl_ok (zT5_11 0)) (And.intro rfl ?_)))
          refine And.intro (by omega) ⟨fun h1_28 => ?_, fun h1_28 => ?_⟩
          · refine And.intro (Or.inl rfl) ?_
            refine And.intro (zRb rfl) (zbt rfl ?_)
            refine hQ _ _ ?_ ?_ (fun c j h0 => rfl)
            · first
              | exact Or.inr ⟨by omega, rfl⟩
              | (refine Or.inl ⟨by omega, Or.inl ⟨rfl, ?_⟩⟩
                 rcases p56hv with h | h
                 · exact h.2
                 · exfalso; omega)
              | (refine Or.inl ⟨by omega, Or.inr ⟨rfl, ?_⟩⟩
                 rcases p56hv with h | h
                 · exfalso; omega
                 · exact h.2)
            · intro x y hx hy
              first
              | exact ((hro x y hx hy).1).trans (if_neg (by omega)).symm
              | (rw [if_pos (by omega)]
                 unfold roU
                 split
                 · next h => rw [show 16 * x + y = (a * 16 + p).toNat by omega]; exact zxe
                 · next h => exact zxs (by omega) (hro x y hx hy).1)
          · refine And.intro (zA_154 hS) (zrd (v := cn) hc ?_)
            refine And.intro ⟨(by omega), (by omega)⟩ ⟨fun h9_28 => ?_, fun h9_28 => ?_⟩
            · refine And.intro (Or.inl rfl) ?_
              refine And.intro (zRb rfl) (zbt rfl ?_)
              refine hQ _ _ ?_ ?_ (fun c j h0 => rfl)
              · first
                | exact Or.inr ⟨by omega, rfl⟩
                | (refine Or.inl ⟨by omega, Or.inl ⟨rfl, ?_⟩⟩
                   rcases p56hv with h | h
                   · exact h.2
                   · exfalso; omega)
                | (refine Or.inl ⟨by omega, Or.inr ⟨rfl, ?_⟩⟩
                   rcases p56hv with h | h
                   · exfalso; omega
                   · exact h.2)
              · intro x y hx hy
                first
                | exact ((hro x y hx hy).1).trans (if_neg (by omega)).symm
                | (rw [if_pos (by omega)]
                   unfold roU
                   split
                   · next h => rw [show 16 * x + y = (a * 16 + p).toNat by omega]; exact zxe
                   · next h => exact zxs (by omega) (hro x y hx hy).1)
            · refine And.intro (Or.inr rfl) ?_
              refine And.intro (zRb rfl) (zbf rfl ?_)
              refine And.intro (zRb rfl) (zbt rfl ?_)
              refine And.intro (zA_154 hS) (zrdR (v := some 158) (zR_154_4 hR) ?_)
              refine And.intro ⟨(zx0 rfl), (zP_158 hS (by omega) (by omega))⟩ ⟨_, (zWi (by omega)), ?_⟩
              refine And.intro (zA_154 hS) ⟨_, sn_A_isApp.up (by decide), ?_⟩
              refine ⟨(a : Int), (roU ro a p o a.toNat), rfl, hS, hR, (by omega), (fun q hq => by
 unfold roU
 split
 · next h => exact ⟨by rw [h.2, show 16 * a.toNat + p.toNat = (a * 16 + p).toNat by omega]; exact zxe, by omega, by omega⟩
 · next h => exact ⟨zxs (by omega) (hro a.toNat q (by omega) hq).1, (hro a.toNat q (by omega) hq).2⟩), ?_⟩
              intro v56o p56hv
              refine And.intro (by omega) ⟨fun h59 => ?_, fun h59 => ?_⟩
              · refine hQ _ _ ?_ ?_ (fun c j h0 => (zxu h0 rfl))
                · first
                  | exact Or.inr ⟨by omega, rfl⟩
                  | (refine Or.inl ⟨by omega, Or.inl ⟨rfl, ?_⟩⟩
                     rcases p56hv with h | h
                     · exact h.2
                     · exfalso; omega)
                  | (refine Or.inl ⟨by omega, Or.inr ⟨rfl, ?_⟩⟩
                     rcases p56hv with h | h
                     · exfalso; omega
                     · exact h.2)
                · intro x y hx hy
                  first
                  | exact ((hro x y hx hy).1).trans (if_neg (by omega)).symm
                  | (rw [if_pos (by omega)]
                     unfold roU
                     split
                     · next h => rw [show 16 * x + y = (a * 16 + p).toNat by omega]; exact zxe
                     · next h => exact zxs (by omega) (hro x y hx hy).1)
              · refine hQ _ _ ?_ ?_ (fun c j h0 => (zxu h0 rfl))
                · first
                  | exact Or.inr ⟨by omega, rfl⟩
                  | (refine Or.inl ⟨by omega, Or.inl ⟨rfl, ?_⟩⟩
                     rcases p56hv with h | h
                     · exact h.2
                     · exfalso; omega)
                  | (refine Or.inl ⟨by omega, Or.inr ⟨rfl, ?_⟩⟩
                     rcases p56hv with h | h
                     · exfalso; omega
                     · exact h.2)
                · intro x y hx hy
                  first
                  | exact ((hro x y hx hy).1).trans (if_neg (by omega)).symm
                  | (rw [if_pos (by omega)]
                     unfold roU
                     split
                     · next h => rw [show 16 * x + y = (a * 16 + p).toNat by omega]; exact zxe
                     · next h => exact zxs (by omega) (hro x y hx hy).1))
def T_A_back : ZT := fun args I L R S Q => ∃ (a : Int) (cn : Nat) (wd : Nat → Int), args = [zvr 154, zvi a] ∧ (zSh S) ∧ (zRs R) ∧ (r32 a) ∧ (I 154 0 = cn) ∧ (cn ≤ 10) ∧ (∀ x : Nat, x < cn → I 159 x = wd x ∧ (wd x = 0 ∨ wd x = 1)) ∧ ∀ (v : Int) (I' : ZI), (v = if 0 ≤ a ∧ a < cn then (if wd a.toNat = 0 then 0 else -4) else -2) → (∀ x : Nat, x < cn → I' 159 x = if 0 ≤ a ∧ x = a.toNat then 1 else wd x) → (∀ c j : Nat, ¬ c = 159 → I' c j = I c j) → Q (some (zvi (v))) I' L R S
theorem sn_A_back : ZSnd 2 5 24 T_A_back := ZSnd.of (zT5_24 1) (by
  rintro args I L R S Q hz ⟨a, cn, wd, rfl, hS, hR, ra, hc, hcn, hw, hQ⟩
  refine And.intro rfl ?_
  refine And.intro (zA_154 hS) (Exists.intro _ (And.intro (zinl_ok (zT5_11 0)) (And.intro rfl ?_)))
  refine And.intro (by omega) ⟨fun h1_2 => ?_, fun h1_2 => ?_⟩
  · refine And.intro (Or.inl rfl) ?_
    refine And.intro (zRb rfl) (zbf rfl ?_)
    refine hQ _ _ ?_ ?_ (fun c j h0 => rfl)
    · first
      | exact (if_neg (by omega)).symm
      | (obtain ⟨q1, q2⟩ := hw a.toNat (by omega)
         rw [if_pos (by omega), if_pos (by omega)])
      | (obtain ⟨q1, q2⟩ := hw a.toNat (by omega)
         rw [if_pos (by omega), if_neg (by omega)])
    · intro x hx
      first
      | exact ((hw x hx).1).trans (if_neg (by omega)).symm
      | (by_cases h : x = a.toNat
         · rw [if_pos (by omega), h]; first | exact zxe | (have := hw a.toNat (by omega); omega)
         · rw [if_neg (by omega)]; first | exact zxs h (hw x hx).1 | exact (hw x hx).1)
  · refine And.intro (zA_154 hS) (zrd (v := cn) hc ?_)
    refine And.intro ⟨(by omega), (by omega)⟩ ⟨fun h9_2 => ?_, fun h9_2 => ?_⟩
    · refine And.intro (Or.inl rfl) ?_
      refine And.intro (zRb rfl) (zbf rfl ?_)
      refine hQ _ _ ?_ ?_ (fun c j h0 => rfl)
      · first
        | exact (if_neg (by omega)).symm
        | (obtain ⟨q1, q2⟩ := hw a.toNat (by omega)
           rw [if_pos (by omega), if_pos (by omega)])
        | (obtain ⟨q1, q2⟩ := hw a.toNat (by omega)
           rw [if_pos (by omega), if_neg (by omega)])
      · intro x hx
        first
        | exact ((hw x hx).1).trans (if_neg (by omega)).symm
        | (by_cases h : x = a.toNat
           · rw [if_pos (by omega), h]; first | exact zxe | (have := hw a.toNat (by omega); omega)
           · rw [if_neg (by omega)]; first | exact zxs h (hw x hx).1 | exact (hw x hx).1)
    · refine And.intro (Or.inr rfl) ?_
      refine And.intro (zRb rfl) (zbt rfl ?_)
      refine And.intro (zA_154 hS) (zrdR (v := some 159) (zR_154_5 hR) ?_)
      refine And.intro (Or.inr (zP_159 hS (by omega) (by omega))) (fun v16 e16 r16 => ?_)
      refine And.intro r16 ⟨fun h17 => ?_, fun h17 => ?_⟩
      · refine And.intro (zA_154 hS) (zrdR (v := some 159) (zR_154_5 hR) ?_)
        refine And.intro ⟨(zx0 rfl), Or.inr ⟨(zP_159 hS (by omega) (by omega)), (Or.inr rfl)⟩⟩ ?_
        refine hQ _ _ ?_ ?_ (fun c j h0 => (zxu h0 rfl))
        · first
          | exact (if_neg (by omega)).symm
          | (obtain ⟨q1, q2⟩ := hw a.toNat (by omega)
             rw [if_pos (by omega), if_pos (by omega)])
          | (obtain ⟨q1, q2⟩ := hw a.toNat (by omega)
             rw [if_pos (by omega), if_neg (by omega)])
        · intro x hx
          first
          | exact ((hw x hx).1).trans (if_neg (by omega)).symm
          | (by_cases h : x = a.toNat
             · rw [if_pos (by omega), h]; first | exact zxe | (have := hw a.toNat (by omega); omega)
             · rw [if_neg (by omega)]; first | exact zxs h (hw x hx).1 | exact (hw x hx).1)
      · refine hQ _ _ ?_ ?_ (fun c j h0 => rfl)
        · first
          | exact (if_neg (by omega)).symm
          | (obtain ⟨q1, q2⟩ := hw a.toNat (by omega)
             rw [if_pos (by omega), if_pos (by omega)])
          | (obtain ⟨q1, q2⟩ := hw a.toNat (by omega)
             rw [if_pos (by omega), if_neg (by omega)])
        · intro x hx
          first
          | exact ((hw x hx).1).trans (if_neg (by omega)).symm
          | (by_cases h : x = a.toNat
             · rw [if_pos (by omega), h]; first | exact zxe | (have := hw a.toNat (by omega); omega)
             · rw [if_neg (by omega)]; first | exact zxs h (hw x hx).1 | exact (hw x hx).1))
def T_A_next : ZT := fun args I L R S Q => ∃ (a : Int) (cn : Nat) (se : Int) (wd : Nat → Int) (ro : Nat → Nat → Int), args = [zvr 154, zvi a] ∧ (zSh S) ∧ (zRs R) ∧ (r32 a) ∧ (I 154 0 = cn) ∧ (cn ≤ 10) ∧ (I 154 6 = se) ∧ (0 ≤ se ∧ se ≤ 60) ∧ (∀ x : Nat, x < cn → I 159 x = wd x ∧ (wd x = 0 ∨ wd x = 1)) ∧ (∀ x p : Nat, x < cn → p < 16 → I 158 (16 * x + p) = ro x p ∧ -1 ≤ ro x p ∧ ro x p ≤ 3) ∧ ∀ (v : Int) (I' : ZI), ((¬ (0 ≤ a ∧ a < cn) ∧ v = -2) ∨ ((0 ≤ a ∧ a < cn) ∧ ((se = 60 ∧ v = -1) ∨ (se < 60 ∧ ((wd a.toNat = 0 ∧ apr (ro a.toNat) ∧ v = se) ∨ (¬ (wd a.toNat = 0 ∧ apr (ro a.toNat)) ∧ v = -5)))))) → (I' 154 6 = if 0 ≤ v then se + 1 else se) → (∀ c j : Nat, ¬ (c = 154 ∧ j = 6) → I' c j = I c j) → Q (some (zvi (v))) I' L R S
theorem sn_A_next : ZSnd 2 5 18 T_A_next := ZSnd.of (zT5_18 1) (by
  rintro args I L R S Q hz ⟨a, cn, se, wd, ro, rfl, hS, hR, ra, hc, hcn, hse, hs2, hw, hro, hQ⟩
  refine And.intro rfl ?_
  refine And.intro (zA_154 hS) (Exists.intro _ (And.intro (zinl_ok (zT5_11 0)) (And.intro rfl ?_)))
  refine And.intro (by omega) ⟨fun h1_2 => ?_, fun h1_2 => ?_⟩
  · refine And.intro (Or.inl rfl) ?_
    refine And.intro (zRb rfl) (zbf rfl ?_)
    refine hQ _ _ ?_ ?_ (fun c j h0 => rfl)
    · first
      | exact Or.inl ⟨by omega, rfl⟩
      | exact Or.inr ⟨by omega, Or.inl ⟨by omega, rfl⟩⟩
      | (refine Or.inr ⟨by omega, Or.inr ⟨by omega, Or.inr ⟨?_, rfl⟩⟩⟩
         rintro ⟨h1, h2⟩
         omega)
      | (refine Or.inr ⟨by omega, Or.inr ⟨by omega, Or.inr ⟨?_, rfl⟩⟩⟩
         rintro ⟨h1, h2⟩
         rcases p33hv with h | h
         · omega
         · exact h.2 h2)
      | (refine Or.inr ⟨by omega, Or.inr ⟨by omega, Or.inl ⟨?_, ?_, by omega⟩⟩⟩
         · have := (hw a.toNat (by omega)).2
           omega
         · rcases p33hv with h | h
           · exact h.2
           · exfalso; omega)
    · first
      | (rw [if_neg (by omega)]; exact hse)
      | (rw [if_pos (by omega)]; rfl)
  · refine And.intro (zA_154 hS) (zrd (v := cn) hc ?_)
    refine And.intro ⟨(by omega), (by omega)⟩ ⟨fun h9_2 => ?_, fun h9_2 => ?_⟩
    · refine And.intro (Or.inl rfl) ?_
      refine And.intro (zRb rfl) (zbf rfl ?_)
      refine hQ _ _ ?_ ?_ (fun c j h0 => rfl)
      · first
        | exact Or.inl ⟨by omega, rfl⟩
        | exact Or.inr ⟨by omega, Or.inl ⟨by omega, rfl⟩⟩
        | (refine Or.inr ⟨by omega, Or.inr ⟨by omega, Or.inr ⟨?_, rfl⟩⟩⟩
           rintro ⟨h1, h2⟩
           omega)
        | (refine Or.inr ⟨by omega, Or.inr ⟨by omega, Or.inr ⟨?_, rfl⟩⟩⟩
           rintro ⟨h1, h2⟩
           rcases p33hv with h | h
           · omega
           · exact h.2 h2)
        | (refine Or.inr ⟨by omega, Or.inr ⟨by omega, Or.inl ⟨?_, ?_, by omega⟩⟩⟩
           · have := (hw a.toNat (by omega)).2
             omega
           · rcases p33hv with h | h
             · exact h.2
             · exfalso; omega)
      · first
        | (rw [if_neg (by omega)]; exact hse)
        | (rw [if_pos (by omega)]; rfl)
    · refine And.intro (Or.inr rfl) ?_
      refine And.intro (zRb rfl) (zbt rfl ?_)
      refine And.intro (zA_154 hS) (zrd (v := se) hse ?_)
      refine And.intro ⟨(by omega), (zRb rfl)⟩ ⟨fun h17 => ?_, fun h17 => ?_⟩
      · refine And.intro (zA_154 hS) (zrdR (v := some 159) (zR_154_5 hR) ?_)
        refine And.intro (Or.inr (zP_159 hS (by omega) (by omega))) (fun v27 e27 r27 => ?_)
        have f27 : v27 = wd a.toNat := (e27.trans (hw _ (by omega)).1)
        refine And.intro r27 ⟨fun h28 => ?_, fun h28 => ?_⟩
        · refine hQ _ _ ?_ ?_ (fun c j h0 => rfl)
          · first
            | exact Or.inl ⟨by omega, rfl⟩
            | exact Or.inr ⟨by omega, Or.inl ⟨by omega, rfl⟩⟩
            | (refine Or.inr ⟨by omega, Or.inr ⟨by omega, Or.inr ⟨?_, rfl⟩⟩⟩
               rintro ⟨h1, h2⟩
               omega)
            | (refine Or.inr ⟨by omega, Or.inr ⟨by omega, Or.inr ⟨?_, rfl⟩⟩⟩
               rintro ⟨h1, h2⟩
               rcases p33hv with h | h
               · omega
               · exact h.2 h2)
            | (refine Or.inr ⟨by omega, Or.inr ⟨by omega, Or.inl ⟨?_, ?_, by omega⟩⟩⟩
               · have := (hw a.toNat (by omega)).2
                 omega
               · rcases p33hv with h | h
                 · exact h.2
                 · exfalso; omega)
          · first
            | (rw [if_neg (by omega)]; exact hse)
            | (rw [if_pos (by omega)]; rfl)
        · refine And.intro (zA_154 hS) ⟨_, sn_A_isApp.up (by decide), ?_⟩
          refine ⟨(a : Int), (ro a.toNat), rfl, hS, hR, (by omega), (fun q hq => hro a.toNat q (by omega) hq), ?_⟩
          intro v33o p33hv
          refine And.intro (by omega) ⟨fun h36 => ?_, fun h36 => ?_⟩
          · refine And.intro (zA_154 hS) (zrd (v := se) hse ?_)
            refine And.intro (zA_154 hS) ⟨_, (zWi (by omega)), ?_⟩
            refine And.intro (zA_154 hS) (zrd (v := (se + 1)) rfl ?_)
            refine hQ _ _ ?_ ?_ (fun c j h0 => (zxcj h0 rfl))
            · first
              | exact Or.inl ⟨by omega, rfl⟩
              | exact Or.inr ⟨by omega, Or.inl ⟨by omega, rfl⟩⟩
              | (refine Or.inr ⟨by omega, Or.inr ⟨by omega, Or.inr ⟨?_, rfl⟩⟩⟩
                 rintro ⟨h1, h2⟩
                 omega)
              | (refine Or.inr ⟨by omega, Or.inr ⟨by omega, Or.inr ⟨?_, rfl⟩⟩⟩
                 rintro ⟨h1, h2⟩
                 rcases p33hv with h | h
                 · omega
                 · exact h.2 h2)
              | (refine Or.inr ⟨by omega, Or.inr ⟨by omega, Or.inl ⟨?_, ?_, by omega⟩⟩⟩
                 · have := (hw a.toNat (by omega)).2
                   omega
                 · rcases p33hv with h | h
                   · exact h.2
                   · exfalso; omega)
            · first
              | (rw [if_neg (by omega)]; exact hse)
              | (rw [if_pos (by omega)]; rfl)
          · refine hQ _ _ ?_ ?_ (fun c j h0 => rfl)
            · first
              | exact Or.inl ⟨by omega, rfl⟩
              | exact Or.inr ⟨by omega, Or.inl ⟨by omega, rfl⟩⟩
              | (refine Or.inr ⟨by omega, Or.inr ⟨by omega, Or.inr ⟨?_, rfl⟩⟩⟩
                 rintro ⟨h1, h2⟩
                 omega)
              | (refine Or.inr ⟨by omega, Or.inr ⟨by omega, Or.inr ⟨?_, rfl⟩⟩⟩
                 rintro ⟨h1, h2⟩
                 rcases p33hv with h | h
                 · omega
                 · exact h.2 h2)
              | (refine Or.inr ⟨by omega, Or.inr ⟨by omega, Or.inl ⟨?_, ?_, by omega⟩⟩⟩
                 · have := (hw a.toNat (by omega)).2
                   omega
                 · rcases p33hv with h | h
                   · exact h.2
                   · exfalso; omega)
            · first
              | (rw [if_neg (by omega)]; exact hse)
              | (rw [if_pos (by omega)]; rfl)
      · refine hQ _ _ ?_ ?_ (fun c j h0 => rfl)
        · first
          | exact Or.inl ⟨by omega, rfl⟩
          | exact Or.inr ⟨by omega, Or.inl ⟨by omega, rfl⟩⟩
          | (refine Or.inr ⟨by omega, Or.inr ⟨by omega, Or.inr ⟨?_, rfl⟩⟩⟩
             rintro ⟨h1, h2⟩
             omega)
          | (refine Or.inr ⟨by omega, Or.inr ⟨by omega, Or.inr ⟨?_, rfl⟩⟩⟩
             rintro ⟨h1, h2⟩
             rcases p33hv with h | h
             · omega
             · exact h.2 h2)
          | (refine Or.inr ⟨by omega, Or.inr ⟨by omega, Or.inl ⟨?_, ?_, by omega⟩⟩⟩
             · have := (hw a.toNat (by omega)).2
               omega
             · rcases p33hv with h | h
               · exact h.2
               · exfalso; omega)
        · first
          | (rw [if_neg (by omega)]; exact hse)
          | (rw [if_pos (by omega)]; rfl))
