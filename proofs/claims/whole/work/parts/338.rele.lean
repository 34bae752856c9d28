/-! rele -/
def T_B_approve : ZT := fun args I L R S Q => ∃ (a : Int) (p : Int) (o : Int) (ev : Int) (cn : Nat) (ro : Nat → Nat → Int), args = [zvr 280, zvi a, zvi p, zvi o] ∧ (zSh S) ∧ (zRs R) ∧ (r32 a ∧ r32 p ∧ r32 o) ∧ (I 280 8 = cn) ∧ (cn ≤ 10) ∧ (I 280 24 = ev) ∧ (0 ≤ ev ∧ ev ≤ 100) ∧ (∀ x p : Nat, x < cn → p < 16 → I 295 (16 * x + p) = ro x p + 1 ∧ -1 ≤ ro x p ∧ ro x p ≤ 3) ∧ ∀ (v : Int) (I' : ZI), (((0 ≤ a ∧ a < cn ∧ 0 ≤ p ∧ p < 16 ∧ 0 ≤ o ∧ o < 4) ∧ I' 280 0 = 0 ∧ ((v = 1 ∧ apr (roU ro a p o a.toNat)) ∨ (v = 0 ∧ ¬ apr (roU ro a p o a.toNat)))) ∨ (¬ (0 ≤ a ∧ a < cn ∧ 0 ≤ p ∧ p < 16 ∧ 0 ≤ o ∧ o < 4) ∧ (I' 280 0 = 1 ∨ I' 280 0 = 2))) → (0 ≤ I' 280 24 ∧ I' 280 24 ≤ 100) → (∀ x y : Nat, x < cn → y < 16 → I' 295 (16 * x + y) = (if (0 ≤ a ∧ a < cn ∧ 0 ≤ p ∧ p < 16 ∧ 0 ≤ o ∧ o < 4) then roU ro a p o x y else ro x y) + 1) → (∀ c j : Nat, ¬ c = 295 → ¬ c = 298 → ¬ c = 299 → ¬ c = 300 → ¬ c = 301 → ¬ (c = 280 ∧ j = 0) → ¬ (c = 280 ∧ j = 24) → I' c j = I c j) → Q (some (zvi (v))) I' L R S
theorem sn_B_approve : ZSnd 2 19 0 T_B_approve := ZSnd.of (zT19_0 1) (by
  rintro args I L R S Q hz ⟨a, p, o, ev, cn, ro, rfl, hS, hR, ra, hc, hcn, hev, hev2, hro, hQ⟩
  refine And.intro rfl ?_
  refine And.intro (zA_280 hS) (Exists.intro _ (And.intro (zinl_ok (zT19_18 0)) (And.intro rfl ?_)))
  refine And.intro (by omega) ⟨fun h1_3 => ?_, fun h1_3 => ?_⟩
  · refine And.intro (Or.inl rfl) ?_
    refine And.intro (zRb rfl) (zbf rfl ?_)
    refine And.intro (zA_280 hS) ⟨_, (zWi (zRb rfl)), ?_⟩
    refine And.intro (zA_280 hS) (zrd (v := 1) rfl ?_)
    refine And.intro (zRb rfl) (zbf rfl ?_)
    refine hQ _ _ ?_ ?_ ?_ (fun c j h0 h1 h2 h3 h4 h5 h6 => (zxcj h5 rfl))
    · first
      | exact Or.inr ⟨by omega, Or.inl rfl⟩
      | exact Or.inr ⟨by omega, Or.inr rfl⟩
      | (refine Or.inl ⟨by omega, rfl, Or.inl ⟨rfl, ?_⟩⟩
         rcases p73hv with h | h
         · exact h.2
         · exfalso; omega)
      | (refine Or.inl ⟨by omega, rfl, Or.inr ⟨rfl, ?_⟩⟩
         rcases p73hv with h | h
         · exfalso; omega
         · exact h.2)
    · first
      | exact (show 0 ≤ ev + 1 ∧ ev + 1 ≤ 100 by omega)
      | exact (show 0 ≤ I 280 24 ∧ I 280 24 ≤ 100 by omega)
    · intro x y hx hy
      first
      | (refine (hro x y hx hy).1.trans ?_
         rw [if_neg (by omega)])
      | (rw [if_pos (by omega)]
         unfold roU
         refine (show _ = xu I 295 (16 * a + p : Int).toNat (1 + o) 295 (16 * x + y) from rfl).trans ?_
         split
         · next h => rw [show 16 * x + y = (16 * a + p : Int).toNat by omega, zxe]; omega
         · next h => exact zxs (by omega) (hro x y hx hy).1)
  · refine And.intro (zA_280 hS) (zrd (v := cn) hc ?_)
    refine And.intro ⟨(by omega), (by omega)⟩ ⟨fun h9_3 => ?_, fun h9_3 => ?_⟩
    · refine And.intro (Or.inl rfl) ?_
      refine And.intro (zRb rfl) (zbf rfl ?_)
      refine And.intro (zA_280 hS) ⟨_, (zWi (zRb rfl)), ?_⟩
      refine And.intro (zA_280 hS) (zrd (v := 1) rfl ?_)
      refine And.intro (zRb rfl) (zbf rfl ?_)
      refine hQ _ _ ?_ ?_ ?_ (fun c j h0 h1 h2 h3 h4 h5 h6 => (zxcj h5 rfl))
      · first
        | exact Or.inr ⟨by omega, Or.inl rfl⟩
        | exact Or.inr ⟨by omega, Or.inr rfl⟩
        | (refine Or.inl ⟨by omega, rfl, Or.inl ⟨rfl, ?_⟩⟩
           rcases p73hv with h | h
           · exact h.2
           · exfalso; omega)
        | (refine Or.inl ⟨by omega, rfl, Or.inr ⟨rfl, ?_⟩⟩
           rcases p73hv with h | h
           · exfalso; omega
           · exact h.2)
      · first
        | exact (show 0 ≤ ev + 1 ∧ ev + 1 ≤ 100 by omega)
        | exact (show 0 ≤ I 280 24 ∧ I 280 24 ≤ 100 by omega)
      · intro x y hx hy
        first
        | (refine (hro x y hx hy).1.trans ?_
           rw [if_neg (by omega)])
        | (rw [if_pos (by omega)]
           unfold roU
           refine (show _ = xu I 295 (16 * a + p : Int).toNat (1 + o) 295 (16 * x + y) from rfl).trans ?_
           split
           · next h => rw [show 16 * x + y = (16 * a + p : Int).toNat by omega, zxe]; omega
           · next h => exact zxs (by omega) (hro x y hx hy).1)
    · refine And.intro (Or.inr rfl) ?_
      refine And.intro (zRb rfl) (zbt rfl ?_)
      refine And.intro (by omega) ⟨fun h14 => ?_, fun h14 => ?_⟩
      · refine And.intro (zA_280 hS) ⟨_, (zWi (zRb rfl)), ?_⟩
        refine And.intro (zA_280 hS) (zrd (v := 2) rfl ?_)
        refine And.intro (zRb rfl) (zbf rfl ?_)
        refine hQ _ _ ?_ ?_ ?_ (fun c j h0 h1 h2 h3 h4 h5 h6 => (zxcj h5 rfl))
        · first
          | exact Or.inr ⟨by omega, Or.inl rfl⟩
          | exact Or.inr ⟨by omega, Or.inr rfl⟩
          | (refine Or.inl ⟨by omega, rfl, Or.inl ⟨rfl, ?_⟩⟩
             rcases p73hv with h | h
             · exact h.2
             · exfalso; omega)
          | (refine Or.inl ⟨by omega, rfl, Or.inr ⟨rfl, ?_⟩⟩
             rcases p73hv with h | h
             · exfalso; omega
             · exact h.2)
        · first
          | exact (show 0 ≤ ev + 1 ∧ ev + 1 ≤ 100 by omega)
          | exact (show 0 ≤ I 280 24 ∧ I 280 24 ≤ 100 by omega)
        · intro x y hx hy
          first
          | (refine (hro x y hx hy).1.trans ?_
             rw [if_neg (by omega)])
          | (rw [if_pos (by omega)]
             unfold roU
             refine (show _ = xu I 295 (16 * a + p : Int).toNat (1 + o) 295 (16 * x + y) from rfl).trans ?_
             split
             · next h => rw [show 16 * x + y = (16 * a + p : Int).toNat by omega, zxe]; omega
             · next h => exact zxs (by omega) (hro x y hx hy).1)
      · refine And.intro ⟨(by omega), (zRb rfl)⟩ ⟨fun h20 => ?_, fun h20 => ?_⟩
        · refine And.intro (zA_280 hS) ⟨_, (zWi (zRb rfl)), ?_⟩
          refine And.intro (zA_280 hS) (zrd (v := 2) rfl ?_)
          refine And.intro (zRb rfl) (zbf rfl ?_)
          refine hQ _ _ ?_ ?_ ?_ (fun c j h0 h1 h2 h3 h4 h5 h6 => (zxcj h5 rfl))
          · first
            | exact Or.inr ⟨by omega, Or.inl rfl⟩
            | exact Or.inr ⟨by omega, Or.inr rfl⟩
            | (refine Or.inl ⟨by omega, rfl, Or.inl ⟨rfl, ?_⟩⟩
               rcases p73hv with h | h
               · exact h.2
               · exfalso; omega)
            | (refine Or.inl ⟨by omega, rfl, Or.inr ⟨rfl, ?_⟩⟩
               rcases p73hv with h | h
               · exfalso; omega
               · exact h.2)
          · first
            | exact (show 0 ≤ ev + 1 ∧ ev + 1 ≤ 100 by omega)
            | exact (show 0 ≤ I 280 24 ∧ I 280 24 ≤ 100 by omega)
          · intro x y hx hy
            first
            | (refine (hro x y hx hy).1.trans ?_
               rw [if_neg (by omega)])
            | (rw [if_pos (by omega)]
               unfold roU
               refine (show _ = xu I 295 (16 * a + p : Int).toNat (1 + o) 295 (16 * x + y) from rfl).trans ?_
               split
               · next h => rw [show 16 * x + y = (16 * a + p : Int).toNat by omega, zxe]; omega
               · next h => exact zxs (by omega) (hro x y hx hy).1)
        · refine And.intro (by omega) ⟨fun h24 => ?_, fun h24 => ?_⟩
          · refine And.intro (zA_280 hS) ⟨_, (zWi (zRb rfl)), ?_⟩
            refine And.intro (zA_280 hS) (zrd (v := 2) rfl ?_)
            refine And.intro (zRb rfl) (zbf rfl ?_)
            refine hQ _ _ ?_ ?_ ?_ (fun c j h0 h1 h2 h3 h4 h5 h6 => (zxcj h5 rfl))
            · first
              | exact Or.inr ⟨by omega, Or.inl rfl⟩
              | exact Or.inr ⟨by omega, Or.inr rfl⟩
              | (refine Or.inl ⟨by omega, rfl, Or.inl ⟨rfl, ?_⟩⟩
                 rcases p73hv with h | h
                 · exact h.2
                 · exfalso; omega)
              | (refine Or.inl ⟨by omega, rfl, Or.inr ⟨rfl, ?_⟩⟩
                 rcases p73hv with h | h
                 · exfalso; omega
                 · exact h.2)
            · first
              | exact (show 0 ≤ ev + 1 ∧ ev + 1 ≤ 100 by omega)
              | exact (show 0 ≤ I 280 24 ∧ I 280 24 ≤ 100 by omega)
            · intro x y hx hy
              first
              | (refine (hro x y hx hy).1.trans ?_
                 rw [if_neg (by omega)])
              | (rw [if_pos (by omega)]
                 unfold roU
                 refine (show _ = xu I 295 (16 * a + p : Int).toNat (1 + o) 295 (16 * x + y) from rfl).trans ?_
                 split
                 · next h => rw [show 16 * x + y = (16 * a + p : Int).toNat by omega, zxe]; omega
                 · next h => exact zxs (by omega) (hro x y hx hy).1)
          · refine And.intro ⟨(by omega), (zRb rfl)⟩ ⟨fun h29 => ?_, fun h29 => ?_⟩
            · refine And.intro (zA_280 hS) ⟨_, (zWi (zRb rfl)), ?_⟩
              refine And.intro (zA_280 hS) (zrd (v := 2) rfl ?_)
              refine And.intro (zRb rfl) (zbf rfl ?_)
              refine hQ _ _ ?_ ?_ ?_ (fun c j h0 h1 h2 h3 h4 h5 h6 => (zxcj h5 rfl))
              · first
                | exact Or.inr ⟨by omega, Or.inl rfl⟩
                | exact Or.inr ⟨by omega, Or.inr rfl⟩
                | (refine Or.inl ⟨by omega, rfl, Or.inl ⟨rfl, ?_⟩⟩
                   rcases p73hv with h | h
                   · exact h.2
                   · exfalso; omega)
                | (refine Or.inl ⟨by omega, rfl, Or.inr ⟨rfl, ?_⟩⟩
                   rcases p73hv with h | h
                   · exfalso; omega
                   · exact h.2)
              · first
                | exact (show 0 ≤ ev + 1 ∧ ev + 1 ≤ 100 by omega)
                | exact (show 0 ≤ I 280 24 ∧ I 280 24 ≤ 100 by omega)
              · intro x y hx hy
                first
                | (refine (hro x y hx hy).1.trans ?_
                   rw [if_neg (by omega)])
                | (rw [if_pos (by omega)]
                   unfold roU
                   refine (show _ = xu I 295 (16 * a + p : Int).toNat (1 + o) 295 (16 * x + y) from rfl).trans ?_
                   split
                   · next h => rw [show 16 * x + y = (16 * a + p : Int).toNat by omega, zxe]; omega
                   · next h => exact zxs (by omega) (hro x y hx hy).1)
            · refine And.intro (zA_280 hS) ⟨_, (zWi (zRb rfl)), ?_⟩
              refine And.intro (zA_280 hS) (zrd (v := 0) rfl ?_)
              refine And.intro (zRb rfl) (zbt rfl ?_)
              refine And.intro (zA_280 hS) (zrdR (v := some 295) (zR_280_19 hR) ?_)
              refine And.intro ⟨(zx0 rfl), (zP_295 hS (by omega) (by omega))⟩ ⟨_, (zWi (by omega)), ?_⟩
              refine And.intro (zA_280 hS) (Exists.intro _ (And.intro (zinl_ok (zT19_22 0)) (And.intro rfl ?_)))
              refine And.intro (zA_280 hS) (zrd (v := ev) hev ?_)
              refine And.intro ⟨(by omega), (zRb rfl)⟩ ⟨fun h6_68 => ?_, fun h6_68 => ?_⟩
              · refine And.intro (zA_280 hS) (zrdR (v := some 298) (zR_280_25 hR) ?_)
                refine And.intro (zA_280 hS) (zrd (v := ev) hev ?_)
                refine And.intro ⟨(zx0 rfl), (zP_298 hS (by omega) (by omega))⟩ ⟨_, (zWi (by omega)), ?_⟩
                refine And.intro (zA_280 hS) (zrdR (v := some 299) (zR_280_26 hR) ?_)
                refine And.intro (zA_280 hS) (zrd (v := ev) hev ?_)
                refine And.intro ⟨(zx0 rfl), (zP_299 hS (by omega) (by omega))⟩ ⟨_, (zWi (zRb rfl)), ?_⟩
                refine And.intro (zA_280 hS) (zrdR (v := some 300) (zR_280_27 hR) ?_)
                refine And.intro (zA_280 hS) (zrd (v := ev) hev ?_)
                refine And.intro ⟨(zx0 rfl), (zP_300 hS (by omega) (by omega))⟩ ⟨_, (zWi (by omega)), ?_⟩
                refine And.intro (zA_280 hS) (zrdR (v := some 301) (zR_280_28 hR) ?_)
                refine And.intro (zA_280 hS) (zrd (v := ev) hev ?_)
                refine And.intro ⟨(zx0 rfl), (zP_301 hS (by omega) (by omega))⟩ ⟨_, (zWi (by omega)), ?_⟩
                refine And.intro (zA_280 hS) (zrd (v := ev) hev ?_)
                refine And.intro (zA_280 hS) ⟨_, (zWi (by omega)), ?_⟩
                refine And.intro (zA_280 hS) ⟨_, sn_B_isApp.up (by decide), ?_⟩
                refine ⟨(a : Int), (roU ro a p o a.toNat), rfl, hS, hR, (by omega), (fun q hq => by
 refine (show _ ∧ _ from ⟨(show _ = xu I 295 (16 * a + p : Int).toNat (1 + o) 295 (16 * a.toNat + q) from rfl).trans ?_, ?_⟩)
 · unfold roU
   split
   · next h => rw [h.2, show 16 * a.toNat + p.toNat = (16 * a + p : Int).toNat by omega, zxe]; omega
   · next h => exact zxs (by omega) (hro a.toNat q (by omega) hq).1
 · unfold roU
   split
   · next h => exact ⟨by omega, by omega⟩
   · next h => exact (hro a.toNat q (by omega) hq).2), ?_⟩
                intro v73o p73hv
                refine And.intro (by omega) ⟨fun h76 => ?_, fun h76 => ?_⟩
                · refine hQ _ _ ?_ ?_ ?_ (fun c j h0 h1 h2 h3 h4 h5 h6 => (zxcj h6 (zxu h4 (zxu h3 (zxu h2 (zxu h1 (zxu h0 (zxcj h5 rfl))))))))
                  · first
                    | exact Or.inr ⟨by omega, Or.inl rfl⟩
                    | exact Or.inr ⟨by omega, Or.inr rfl⟩
                    | (refine Or.inl ⟨by omega, rfl, Or.inl ⟨rfl, ?_⟩⟩
                       rcases p73hv with h | h
                       · exact h.2
                       · exfalso; omega)
                    | (refine Or.inl ⟨by omega, rfl, Or.inr ⟨rfl, ?_⟩⟩
                       rcases p73hv with h | h
                       · exfalso; omega
                       · exact h.2)
                  · first
                    | exact (show 0 ≤ ev + 1 ∧ ev + 1 ≤ 100 by omega)
                    | exact (show 0 ≤ I 280 24 ∧ I 280 24 ≤ 100 by omega)
                  · intro x y hx hy
                    first
                    | (refine (hro x y hx hy).1.trans ?_
                       rw [if_neg (by omega)])
                    | (rw [if_pos (by omega)]
                       unfold roU
                       refine (show _ = xu I 295 (16 * a + p : Int).toNat (1 + o) 295 (16 * x + y) from rfl).trans ?_
                       split
                       · next h => rw [show 16 * x + y = (16 * a + p : Int).toNat by omega, zxe]; omega
                       · next h => exact zxs (by omega) (hro x y hx hy).1)
                · refine hQ _ _ ?_ ?_ ?_ (fun c j h0 h1 h2 h3 h4 h5 h6 => (zxcj h6 (zxu h4 (zxu h3 (zxu h2 (zxu h1 (zxu h0 (zxcj h5 rfl))))))))
                  · first
                    | exact Or.inr ⟨by omega, Or.inl rfl⟩
                    | exact Or.inr ⟨by omega, Or.inr rfl⟩
                    | (refine Or.inl ⟨by omega, rfl, Or.inl ⟨rfl, ?_⟩⟩
                       rcases p73hv with h | h
                       · exact h.2
                       · exfalso; omega)
                    | (refine Or.inl ⟨by omega, rfl, Or.inr ⟨rfl, ?_⟩⟩
                       rcases p73hv with h | h
                       · exfalso; omega
                       · exact h.2)
                  · first
                    | exact (show 0 ≤ ev + 1 ∧ ev + 1 ≤ 100 by omega)
                    | exact (show 0 ≤ I 280 24 ∧ I 280 24 ≤ 100 by omega)
                  · intro x y hx hy
                    first
                    | (refine (hro x y hx hy).1.trans ?_
                       rw [if_neg (by omega)])
                    | (rw [if_pos (by omega)]
                       unfold roU
                       refine (show _ = xu I 295 (16 * a + p : Int).toNat (1 + o) 295 (16 * x + y) from rfl).trans ?_
                       split
                       · next h => rw [show 16 * x + y = (16 * a + p : Int).toNat by omega, zxe]; omega
                       · next h => exact zxs (by omega) (hro x y hx hy).1)
              · refine And.intro (zA_280 hS) ⟨_, sn_B_isApp.up (by decide), ?_⟩
                refine ⟨(a : Int), (roU ro a p o a.toNat), rfl, hS, hR, (by omega), (fun q hq => by
 refine (show _ ∧ _ from ⟨(show _ = xu I 295 (16 * a + p : Int).toNat (1 + o) 295 (16 * a.toNat + q) from rfl).trans ?_, ?_⟩)
 · unfold roU
   split
   · next h => rw [h.2, show 16 * a.toNat + p.toNat = (16 * a + p : Int).toNat by omega, zxe]; omega
   · next h => exact zxs (by omega) (hro a.toNat q (by omega) hq).1
 · unfold roU
   split
   · next h => exact ⟨by omega, by omega⟩
   · next h => exact (hro a.toNat q (by omega) hq).2), ?_⟩
                intro v73o p73hv
                refine And.intro (by omega) ⟨fun h76 => ?_, fun h76 => ?_⟩
                · refine hQ _ _ ?_ ?_ ?_ (fun c j h0 h1 h2 h3 h4 h5 h6 => (zxu h0 (zxcj h5 rfl)))
                  · first
                    | exact Or.inr ⟨by omega, Or.inl rfl⟩
                    | exact Or.inr ⟨by omega, Or.inr rfl⟩
                    | (refine Or.inl ⟨by omega, rfl, Or.inl ⟨rfl, ?_⟩⟩
                       rcases p73hv with h | h
                       · exact h.2
                       · exfalso; omega)
                    | (refine Or.inl ⟨by omega, rfl, Or.inr ⟨rfl, ?_⟩⟩
                       rcases p73hv with h | h
                       · exfalso; omega
                       · exact h.2)
                  · first
                    | exact (show 0 ≤ ev + 1 ∧ ev + 1 ≤ 100 by omega)
                    | exact (show 0 ≤ I 280 24 ∧ I 280 24 ≤ 100 by omega)
                  · intro x y hx hy
                    first
                    | (refine (hro x y hx hy).1.trans ?_
                       rw [if_neg (by omega)])
                    | (rw [if_pos (by omega)]
                       unfold roU
                       refine (show _ = xu I 295 (16 * a + p : Int).toNat (1 + o) 295 (16 * x + y) from rfl).trans ?_
                       split
                       · next h => rw [show 16 * x + y = (16 * a + p : Int).toNat by omega, zxe]; omega
                       · next h => exact zxs (by omega) (hro x y hx hy).1)
                · refine hQ _ _ ?_ ?_ ?_ (fun c j h0 h1 h2 h3 h4 h5 h6 => (zxu h0 (zxcj h5 rfl)))
                  · first
                    | exact Or.inr ⟨by omega, Or.inl rfl⟩
                    | exact Or.inr ⟨by omega, Or.inr rfl⟩
                    | (refine Or.inl ⟨by omega, rfl, Or.inl ⟨rfl, ?_⟩⟩
                       rcases p73hv with h | h
                       · exact h.2
                       · exfalso; omega)
                    | (refine Or.inl ⟨by omega, rfl, Or.inr ⟨rfl, ?_⟩⟩
                       rcases p73hv with h | h
                       · exfalso; omega
                       · exact h.2)
                  · first
                    | exact (show 0 ≤ ev + 1 ∧ ev + 1 ≤ 100 by omega)
                    | exact (show 0 ≤ I 280 24 ∧ I 280 24 ≤ 100 by omega)
                  · intro x y hx hy
                    first
                    | (refine (hro x y hx hy).1.trans ?_
                       rw [if_neg (by omega)])
                    | (rw [if_pos (by omega)]
                       unfold roU
                       refine (show _ = xu I 295 (16 * a + p : Int).toNat (1 + o) 295 (16 * x + y) from rfl).trans ?_
                       split
                       · next h => rw [show 16 * x + y = (16 * a + p : Int).toNat by omega, zxe]; omega
                       · next h => exact zxs (by omega) (hro x y hx hy).1))
def T_B_root : ZT := fun args I L R S Q => ∃ (a : Int) (i : Int) (cn : Nat) (d : Nat → Nat → Int), args = [zvr 280, zvi a, zvi i] ∧ (zSh S) ∧ (zRs R) ∧ (r32 a ∧ r32 i) ∧ (I 280 8 = cn) ∧ (cn ≤ 10) ∧ (∀ r j : Nat, r < cn → j < 32 → I 292 (32 * r + j) = d r j) ∧ ∀ (v : Int) (I' : ZI), (((0 ≤ a ∧ a < cn ∧ 0 ≤ i ∧ i < 32) ∧ I' 280 0 = 0 ∧ v = d a.toNat i.toNat) ∨ (¬ (0 ≤ a ∧ a < cn ∧ 0 ≤ i ∧ i < 32) ∧ I' 280 0 = 1)) → (∀ c j : Nat, ¬ (c = 280 ∧ j = 0) → I' c j = I c j) → Q (some (zvi (v))) I' L R S
theorem sn_B_root : ZSnd 2 19 27 T_B_root := ZSnd.of (zT19_27 1) (by
  rintro args I L R S Q hz ⟨a, i, cn, d, rfl, hS, hR, ra, hc, hcn, hd, hQ⟩
  refine And.intro rfl ?_
  refine And.intro (zA_280 hS) (Exists.intro _ (And.intro (zinl_ok (zT19_18 0)) (And.intro rfl ?_)))
  refine And.intro (by omega) ⟨fun h1_3 => ?_, fun h1_3 => ?_⟩
  · refine And.intro (Or.inl rfl) ?_
    refine And.intro (zRb rfl) (zbt rfl ?_)
    refine And.intro (zA_280 hS) ⟨_, (zWi (zRb rfl)), ?_⟩
    refine And.intro (zA_280 hS) (zrd (v := 1) rfl ?_)
    refine And.intro (zRb rfl) (zbt rfl ?_)
    refine hQ _ _ ?_ (fun c j h0 => (zxcj h0 rfl))
    · first
      | exact Or.inr ⟨by omega, rfl⟩
      | (refine Or.inl ⟨by omega, rfl, ?_⟩
         rw [← hd a.toNat i.toNat (by omega) (by omega), show 32 * a.toNat + i.toNat = (32 * a + i : Int).toNat by omega]
         assumption)
  · refine And.intro (zA_280 hS) (zrd (v := cn) hc ?_)
    refine And.intro ⟨(by omega), (by omega)⟩ ⟨fun h9_3 => ?_, fun h9_3 => ?_⟩
    · refine And.intro (Or.inl rfl) ?_
      refine And.intro (zRb rfl) (zbt rfl ?_)
      refine And.intro (zA_280 hS) ⟨_, (zWi (zRb rfl)), ?_⟩
      refine And.intro (zA_280 hS) (zrd (v := 1) rfl ?_)
      refine And.intro (zRb rfl) (zbt rfl ?_)
      refine hQ _ _ ?_ (fun c j h0 => (zxcj h0 rfl))
      · first
        | exact Or.inr ⟨by omega, rfl⟩
        | (refine Or.inl ⟨by omega, rfl, ?_⟩
           rw [← hd a.toNat i.toNat (by omega) (by omega), show 32 * a.toNat + i.toNat = (32 * a + i : Int).toNat by omega]
           assumption)
    · refine And.intro (Or.inr rfl) ?_
      refine And.intro (zRb rfl) (zbf rfl ?_)
      refine And.intro (by omega) ⟨fun h10 => ?_, fun h10 => ?_⟩
      · refine And.intro (zA_280 hS) ⟨_, (zWi (zRb rfl)), ?_⟩
        refine And.intro (zA_280 hS) (zrd (v := 1) rfl ?_)
        refine And.intro (zRb rfl) (zbt rfl ?_)
        refine hQ _ _ ?_ (fun c j h0 => (zxcj h0 rfl))
        · first
          | exact Or.inr ⟨by omega, rfl⟩
          | (refine Or.inl ⟨by omega, rfl, ?_⟩
             rw [← hd a.toNat i.toNat (by omega) (by omega), show 32 * a.toNat + i.toNat = (32 * a + i : Int).toNat by omega]
             assumption)
      · refine And.intro ⟨(by omega), (zRb rfl)⟩ ⟨fun h16 => ?_, fun h16 => ?_⟩
        · refine And.intro (zA_280 hS) ⟨_, (zWi (zRb rfl)), ?_⟩
          refine And.intro (zA_280 hS) (zrd (v := 1) rfl ?_)
          refine And.intro (zRb rfl) (zbt rfl ?_)
          refine hQ _ _ ?_ (fun c j h0 => (zxcj h0 rfl))
          · first
            | exact Or.inr ⟨by omega, rfl⟩
            | (refine Or.inl ⟨by omega, rfl, ?_⟩
               rw [← hd a.toNat i.toNat (by omega) (by omega), show 32 * a.toNat + i.toNat = (32 * a + i : Int).toNat by omega]
               assumption)
        · refine And.intro (zA_280 hS) ⟨_, (zWi (zRb rfl)), ?_⟩
          refine And.intro (zA_280 hS) (zrd (v := 0) rfl ?_)
          refine And.intro (zRb rfl) (zbf rfl ?_)
          refine And.intro (zA_280 hS) (zrdR (v := some 292) (zR_280_14 hR) ?_)
          refine And.intro (zP_292 hS (by omega) (by omega)) (fun v44 e44 r44 => ?_)
          refine hQ _ _ ?_ (fun c j h0 => (zxcj h0 rfl))
          · first
            | exact Or.inr ⟨by omega, rfl⟩
            | (refine Or.inl ⟨by omega, rfl, ?_⟩
               rw [← hd a.toNat i.toNat (by omega) (by omega), show 32 * a.toNat + i.toNat = (32 * a + i : Int).toNat by omega]
               assumption))
