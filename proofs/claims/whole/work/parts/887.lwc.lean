/-! lwc -/
def T_B_apf : ZT := fun args I L R S Q => ∃ (a : Int) (p : Int) (o : Int) (ev : Int) (cn : Nat) (ro : Nat → Nat → Int), args = [zvr 280, zvi a, zvi p, zvi o] ∧ (zSh S) ∧ (zRs R) ∧ (r32 a ∧ r32 p ∧ r32 o) ∧ (I 280 8 = cn) ∧ (cn ≤ 10) ∧ (I 280 24 = ev) ∧ (0 ≤ ev ∧ ev ≤ 100) ∧ (∀ x p : Nat, x < cn → p < 16 → I 295 (16 * x + p) = ro x p + 1 ∧ -1 ≤ ro x p ∧ ro x p ≤ 3) ∧ ∀ (v : Int) (I' : ZI), (((0 ≤ a ∧ a < cn ∧ 0 ≤ p ∧ p < 16 ∧ 0 ≤ o ∧ o < 4) ∧ I' 280 0 = 0 ∧ ((v = 1 ∧ apr (roU ro a p o a.toNat)) ∨ (v = 0 ∧ ¬ apr (roU ro a p o a.toNat)))) ∨ (¬ (0 ≤ a ∧ a < cn ∧ 0 ≤ p ∧ p < 16 ∧ 0 ≤ o ∧ o < 4) ∧ (I' 280 0 = 1 ∨ I' 280 0 = 2))) → (0 ≤ I' 280 24 ∧ I' 280 24 ≤ 100) → (∀ x y : Nat, x < cn → y < 16 → I' 295 (16 * x + y) = (if (0 ≤ a ∧ a < cn ∧ 0 ≤ p ∧ p < 16 ∧ 0 ≤ o ∧ o < 4) then roU ro a p o x y else ro x y) + 1) → (∀ c j : Nat, ¬ (c = 295 ∧ j < 16 * cn) → ¬ c = 298 → ¬ c = 299 → ¬ c = 300 → ¬ c = 301 → ¬ (c = 280 ∧ j = 0) → ¬ (c = 280 ∧ j = 24) → I' c j = I c j) → Q (some (zvi (v))) I' L R S
theorem sn_B_apf : ZSnd 2 19 0 T_B_apf := ZSnd.of (zT19_0 1) (by
  rintro args I L R S Q hz ⟨a, p, o, ev, cn, ro, rfl, hS, hR, ra, hc, hcn, hev, hev2, hro, hQ⟩
  refine And.intro rfl ?_
  refine And.intro (zA_280 hS) (Exists.intro _ (And.intro (zinl_ok (zT19_18 0)) (And.intro rfl ?_)))
  refine And.intro (by omega) ⟨fun h1_3 => ?_, fun h1_3 => ?_⟩
  · refine And.intro (Or.inl rfl) ?_
    refine And.intro (zRb rfl) (zbf rfl ?_)
    refine And.intro (zA_280 hS) ⟨_, (zWi (zRb rfl)), ?_⟩
    refine And.intro (zA_280 hS) (zrd (v := 1) rfl ?_)
    refine And.intro (zRb rfl) (zbf rfl ?_)
    refine hQ _ _ ?_ ?_ ?_ (fun c j h0 h1 h2 h3 h4 h5 h6 => (zxcj h5 rfl))
    · first
      | exact Or.inr ⟨by omega, Or.inl rfl⟩
      | exact Or.inr ⟨by omega, Or.inr rfl⟩
      | (refine Or.inl ⟨by omega, rfl, Or.inl ⟨rfl, ?_⟩⟩
         rcases p73hv with h | h
         · exact h.2
         · exfalso; omega)
      | (refine Or.inl ⟨by omega, rfl, Or.inr ⟨rfl, ?_⟩⟩
         rcases p73hv with h | h
         · exfalso; omega
         · exact h.2)
    · first
      | exact (show 0 ≤ ev + 1 ∧ ev + 1 ≤ 100 by omega)
      | exact (show 0 ≤ I 280 24 ∧ I 280 24 ≤ 100 by omega)
    · intro x y hx hy
      first
      | (refine (hro x y hx hy).1.trans ?_
         rw [if_neg (by omega)])
      | (rw [if_pos (by omega)]
         unfold roU
         refine (show _ = xu I 295 (16 * a + p : Int).toNat (1 + o) 295 (16 * x + y) from rfl).trans ?_
         split
         · next h => rw [show 16 * x + y = (16 * a + p : Int).toNat by omega, zxe]; omega
         · next h => exact zxs (by omega) (hro x y hx hy).1)
  · refine And.intro (zA_280 hS) (zrd (v := cn) hc ?_)
    refine And.intro ⟨(by omega), (by omega)⟩ ⟨fun h9_3 => ?_, fun h9_3 => ?_⟩
    · refine And.intro (Or.inl rfl) ?_
      refine And.intro (zRb rfl) (zbf rfl ?_)
      refine And.intro (zA_280 hS) ⟨_, (zWi (zRb rfl)), ?_⟩
      refine And.intro (zA_280 hS) (zrd (v := 1) rfl ?_)
      refine And.intro (zRb rfl) (zbf rfl ?_)
      refine hQ _ _ ?_ ?_ ?_ (fun c j h0 h1 h2 h3 h4 h5 h6 => (zxcj h5 rfl))
      · first
        | exact Or.inr ⟨by omega, Or.inl rfl⟩
        | exact Or.inr ⟨by omega, Or.inr rfl⟩
        | (refine Or.inl ⟨by omega, rfl, Or.inl ⟨rfl, ?_⟩⟩
           rcases p73hv with h | h
           · exact h.2
           · exfalso; omega)
        | (refine Or.inl ⟨by omega, rfl, Or.inr ⟨rfl, ?_⟩⟩
           rcases p73hv with h | h
           · exfalso; omega
           · exact h.2)
      · first
        | exact (show 0 ≤ ev + 1 ∧ ev + 1 ≤ 100 by omega)
        | exact (show 0 ≤ I 280 24 ∧ I 280 24 ≤ 100 by omega)
      · intro x y hx hy
        first
        | (refine (hro x y hx hy).1.trans ?_
           rw [if_neg (by omega)])
        | (rw [if_pos (by omega)]
           unfold roU
           refine (show _ = xu I 295 (16 * a + p : Int).toNat (1 + o) 295 (16 * x + y) from rfl).trans ?_
           split
           · next h => rw [show 16 * x + y = (16 * a + p : Int).toNat by omega, zxe]; omega
           · next h => exact zxs (by omega) (hro x y hx hy).1)
    · refine And.intro (Or.inr rfl) ?_
      refine And.intro (zRb rfl) (zbt rfl ?_)
      refine And.intro (by omega) ⟨fun h14 => ?_, fun h14 => ?_⟩
      · refine And.intro (zA_280 hS) ⟨_, (zWi (zRb rfl)), ?_⟩
        refine And.intro (zA_280 hS) (zrd (v := 2) rfl ?_)
        refine And.intro (zRb rfl) (zbf rfl ?_)
        refine hQ _ _ ?_ ?_ ?_ (fun c j h0 h1 h2 h3 h4 h5 h6 => (zxcj h5 rfl))
        · first
          | exact Or.inr ⟨by omega, Or.inl rfl⟩
          | exact Or.inr ⟨by omega, Or.inr rfl⟩
          | (refine Or.inl ⟨by omega, rfl, Or.inl ⟨rfl, ?_⟩⟩
             rcases p73hv with h | h
             · exact h.2
             · exfalso; omega)
          | (refine Or.inl ⟨by omega, rfl, Or.inr ⟨rfl, ?_⟩⟩
             rcases p73hv with h | h
             · exfalso; omega
             · exact h.2)
        · first
          | exact (show 0 ≤ ev + 1 ∧ ev + 1 ≤ 100 by omega)
          | exact (show 0 ≤ I 280 24 ∧ I 280 24 ≤ 100 by omega)
        · intro x y hx hy
          first
          | (refine (hro x y hx hy).1.trans ?_
             rw [if_neg (by omega)])
          | (rw [if_pos (by omega)]
             unfold roU
             refine (show _ = xu I 295 (16 * a + p : Int).toNat (1 + o) 295 (16 * x + y) from rfl).trans ?_
             split
             · next h => rw [show 16 * x + y = (16 * a + p : Int).toNat by omega, zxe]; omega
             · next h => exact zxs (by omega) (hro x y hx hy).1)
      · refine And.intro ⟨(by omega), (zRb rfl)⟩ ⟨fun h20 => ?_, fun h20 => ?_⟩
        · refine And.intro (zA_280 hS) ⟨_, (zWi (zRb rfl)), ?_⟩
          refine And.intro (zA_280 hS) (zrd (v := 2) rfl ?_)
          refine And.intro (zRb rfl) (zbf rfl ?_)
          refine hQ _ _ ?_ ?_ ?_ (fun c j h0 h1 h2 h3 h4 h5 h6 => (zxcj h5 rfl))
          · first
            | exact Or.inr ⟨by omega, Or.inl rfl⟩
            | exact Or.inr ⟨by omega, Or.inr rfl⟩
            | (refine Or.inl ⟨by omega, rfl, Or.inl ⟨rfl, ?_⟩⟩
               rcases p73hv with h | h
               · exact h.2
               · exfalso; omega)
            | (refine Or.inl ⟨by omega, rfl, Or.inr ⟨rfl, ?_⟩⟩
               rcases p73hv with h | h
               · exfalso; omega
               · exact h.2)
          · first
            | exact (show 0 ≤ ev + 1 ∧ ev + 1 ≤ 100 by omega)
            | exact (show 0 ≤ I 280 24 ∧ I 280 24 ≤ 100 by omega)
          · intro x y hx hy
            first
            | (refine (hro x y hx hy).1.trans ?_
               rw [if_neg (by omega)])
            | (rw [if_pos (by omega)]
               unfold roU
               refine (show _ = xu I 295 (16 * a + p : Int).toNat (1 + o) 295 (16 * x + y) from rfl).trans ?_
               split
               · next h => rw [show 16 * x + y = (16 * a + p : Int).toNat by omega, zxe]; omega
               · next h => exact zxs (by omega) (hro x y hx hy).1)
        · refine And.intro (by omega) ⟨fun h24 => ?_, fun h24 => ?_⟩
          · refine And.intro (zA_280 hS) ⟨_, (zWi (zRb rfl)), ?_⟩
            refine And.intro (zA_280 hS) (zrd (v := 2) rfl ?_)
            refine And.intro (zRb rfl) (zbf rfl ?_)
            refine hQ _ _ ?_ ?_ ?_ (fun c j h0 h1 h2 h3 h4 h5 h6 => (zxcj h5 rfl))
            · first
              | exact Or.inr ⟨by omega, Or.inl rfl⟩
              | exact Or.inr ⟨by omega, Or.inr rfl⟩
              | (refine Or.inl ⟨by omega, rfl, Or.inl ⟨rfl, ?_⟩⟩
                 rcases p73hv with h | h
                 · exact h.2
                 · exfalso; omega)
              | (refine Or.inl ⟨by omega, rfl, Or.inr ⟨rfl, ?_⟩⟩
                 rcases p73hv with h | h
                 · exfalso; omega
                 · exact h.2)
            · first
              | exact (show 0 ≤ ev + 1 ∧ ev + 1 ≤ 100 by omega)
              | exact (show 0 ≤ I 280 24 ∧ I 280 24 ≤ 100 by omega)
            · intro x y hx hy
              first
              | (refine (hro x y hx hy).1.trans ?_
                 rw [if_neg (by omega)])
              | (rw [if_pos (by omega)]
                 unfold roU
                 refine (show _ = xu I 295 (16 * a + p : Int).toNat (1 + o) 295 (16 * x + y) from rfl).trans ?_
                 split
                 · next h => rw [show 16 * x + y = (16 * a + p : Int).toNat by omega, zxe]; omega
                 · next h => exact zxs (by omega) (hro x y hx hy).1)
          · refine And.intro ⟨(by omega), (zRb rfl)⟩ ⟨fun h29 => ?_, fun h29 => ?_⟩
            · refine And.intro (zA_280 hS) ⟨_, (zWi (zRb rfl)), ?_⟩
              refine And.intro (zA_280 hS) (zrd (v := 2) rfl ?_)
              refine And.intro (zRb rfl) (zbf rfl ?_)
              refine hQ _ _ ?_ ?_ ?_ (fun c j h0 h1 h2 h3 h4 h5 h6 => (zxcj h5 rfl))
              · first
                | exact Or.inr ⟨by omega, Or.inl rfl⟩
                | exact Or.inr ⟨by omega, Or.inr rfl⟩
                | (refine Or.inl ⟨by omega, rfl, Or.inl ⟨rfl, ?_⟩⟩
                   rcases p73hv with h | h
                   · exact h.2
                   · exfalso; omega)
                | (refine Or.inl ⟨by omega, rfl, Or.inr ⟨rfl, ?_⟩⟩
                   rcases p73hv with h | h
                   · exfalso; omega
                   · exact h.2)
              · first
                | exact (show 0 ≤ ev + 1 ∧ ev + 1 ≤ 100 by omega)
                | exact (show 0 ≤ I 280 24 ∧ I 280 24 ≤ 100 by omega)
              · intro x y hx hy
                first
                | (refine (hro x y hx hy).1.trans ?_
                   rw [if_neg (by omega)])
                | (rw [if_pos (by omega)]
                   unfold roU
                   refine (show _ = xu I 295 (16 * a + p : Int).toNat (1 + o) 295 (16 * x + y) from rfl).trans ?_
                   split
                   · next h => rw [show 16 * x + y = (16 * a + p : Int).toNat by omega, zxe]; omega
                   · next h => exact zxs (by omega) (hro x y hx hy).1)
            · refine And.intro (zA_280 hS) ⟨_, (zWi (zRb rfl)), ?_⟩
              refine And.intro (zA_280 hS) (zrd (v := 0) rfl ?_)
              refine And.intro (zRb rfl) (zbt rfl ?_)
              refine And.intro (zA_280 hS) (zrdR (v := some 295) (zR_280_19 hR) ?_)
              refine And.intro ⟨(zx0 rfl), (zP_295 hS (by omega) (by omega))⟩ ⟨_, (zWi (by omega)), ?_⟩
              refine And.intro (zA_280 hS) (Exists.intro _ (And.intro (zinl_ok (zT19_22 0)) (And.intro rfl ?_)))
              refine And.intro (zA_280 hS) (zrd (v := ev) hev ?_)
              refine And.intro ⟨(by omega), (zRb rfl)⟩ ⟨fun h6_68 => ?_, fun h6_68 => ?_⟩
              · refine And.intro (zA_280 hS) (zrdR (v := some 298) (zR_280_25 hR) ?_)
                refine And.intro (zA_280 hS) (zrd (v := ev) hev ?_)
                refine And.intro ⟨(zx0 rfl), (zP_298 hS (by omega) (by omega))⟩ ⟨_, (zWi (by omega)), ?_⟩
                refine And.intro (zA_280 hS) (zrdR (v := some 299) (zR_280_26 hR) ?_)
                refine And.intro (zA_280 hS) (zrd (v := ev) hev ?_)
                refine And.intro ⟨(zx0 rfl), (zP_299 hS (by omega) (by omega))⟩ ⟨_, (zWi (zRb rfl)), ?_⟩
                refine And.intro (zA_280 hS) (zrdR (v := some 300) (zR_280_27 hR) ?_)
                refine And.intro (zA_280 hS) (zrd (v := ev) hev ?_)
                refine And.intro ⟨(zx0 rfl), (zP_300 hS (by omega) (by omega))⟩ ⟨_, (zWi (by omega)), ?_⟩
                refine And.intro (zA_280 hS) (zrdR (v := some 301) (zR_280_28 hR) ?_)
                refine And.intro (zA_280 hS) (zrd (v := ev) hev ?_)
                refine And.intro ⟨(zx0 rfl), (zP_301 hS (by omega) (by omega))⟩ ⟨_, (zWi (by omega)), ?_⟩
                refine And.intro (zA_280 hS) (zrd (v := ev) hev ?_)
                refine And.intro (zA_280 hS) ⟨_, (zWi (by omega)), ?_⟩
                refine And.intro (zA_280 hS) ⟨_, sn_B_isApp.up (by decide), ?_⟩
                refine ⟨(a : Int), (roU ro a p o a.toNat), rfl, hS, hR, (by omega), (fun q hq => by
 refine (show _ ∧ _ from ⟨(show _ = xu I 295 (16 * a + p : Int).toNat (1 + o) 295 (16 * a.toNat + q) from rfl).trans ?_, ?_⟩)
 · unfold roU
   split
   · next h => rw [h.2, show 16 * a.toNat + p.toNat = (16 * a + p : Int).toNat by omega, zxe]; omega
   · next h => exact zxs (by omega) (hro a.toNat q (by omega) hq).1
 · unfold roU
   split
   · next h => exact ⟨by omega, by omega⟩
   · next h => exact (hro a.toNat q (by omega) hq).2), ?_⟩
                intro v73o p73hv
                refine And.intro (by omega) ⟨fun h76 => ?_, fun h76 => ?_⟩
                · refine hQ _ _ ?_ ?_ ?_ (fun c j h0 h1 h2 h3 h4 h5 h6 => (zxcj h6 (zxu h4 (zxu h3 (zxu h2 (zxu h1 (zxcj (by omega) (zxcj h5 rfl))))))))
                  · first
                    | exact Or.inr ⟨by omega, Or.inl rfl⟩
                    | exact Or.inr ⟨by omega, Or.inr rfl⟩
                    | (refine Or.inl ⟨by omega, rfl, Or.inl ⟨rfl, ?_⟩⟩
                       rcases p73hv with h | h
                       · exact h.2
                       · exfalso; omega)
                    | (refine Or.inl ⟨by omega, rfl, Or.inr ⟨rfl, ?_⟩⟩
                       rcases p73hv with h | h
                       · exfalso; omega
                       · exact h.2)
                  · first
                    | exact (show 0 ≤ ev + 1 ∧ ev + 1 ≤ 100 by omega)
                    | exact (show 0 ≤ I 280 24 ∧ I 280 24 ≤ 100 by omega)
                  · intro x y hx hy
                    first
                    | (refine (hro x y hx hy).1.trans ?_
                       rw [if_neg (by omega)])
                    | (rw [if_pos (by omega)]
                       unfold roU
                       refine (show _ = xu I 295 (16 * a + p : Int).toNat (1 + o) 295 (16 * x + y) from rfl).trans ?_
                       split
                       · next h => rw [show 16 * x + y = (16 * a + p : Int).toNat by omega, zxe]; omega
                       · next h => exact zxs (by omega) (hro x y hx hy).1)
                · refine hQ _ _ ?_ ?_ ?_ (fun c j h0 h1 h2 h3 h4 h5 h6 => (zxcj h6 (zxu h4 (zxu h3 (zxu h2 (zxu h1 (zxcj (by omega) (zxcj h5 rfl))))))))
                  · first
                    | exact Or.inr ⟨by omega, Or.inl rfl⟩
                    | exact Or.inr ⟨by omega, Or.inr rfl⟩
                    | (refine Or.inl ⟨by omega, rfl, Or.inl ⟨rfl, ?_⟩⟩
                       rcases p73hv with h | h
                       · exact h.2
                       · exfalso; omega)
                    | (refine Or.inl ⟨by omega, rfl, Or.inr ⟨rfl, ?_⟩⟩
                       rcases p73hv with h | h
                       · exfalso; omega
                       · exact h.2)
                  · first
                    | exact (show 0 ≤ ev + 1 ∧ ev + 1 ≤ 100 by omega)
                    | exact (show 0 ≤ I 280 24 ∧ I 280 24 ≤ 100 by omega)
                  · intro x y hx hy
                    first
                    | (refine (hro x y hx hy).1.trans ?_
                       rw [if_neg (by omega)])
                    | (rw [if_pos (by omega)]
                       unfold roU
                       refine (show _ = xu I 295 (16 * a + p : Int).toNat (1 + o) 295 (16 * x + y) from rfl).trans ?_
                       split
                       · next h => rw [show 16 * x + y = (16 * a + p : Int).toNat by omega, zxe]; omega
                       · next h => exact zxs (by omega) (hro x y hx hy).1)
              · refine And.intro (zA_280 hS) ⟨_, sn_B_isApp.up (by decide), ?_⟩
                refine ⟨(a : Int), (roU ro a p o a.toNat), rfl, hS, hR, (by omega), (fun q hq => by
 refine (show _ ∧ _ from ⟨(show _ = xu I 295 (16 * a + p : Int).toNat (1 + o) 295 (16 * a.toNat + q) from rfl).trans ?_, ?_⟩)
 · unfold roU
   split
   · next h => rw [h.2, show 16 * a.toNat + p.toNat = (16 * a + p : Int).toNat by omega, zxe]; omega
   · next h => exact zxs (by omega) (hro a.toNat q (by omega) hq).1
 · unfold roU
   split
   · next h => exact ⟨by omega, by omega⟩
   · next h => exact (hro a.toNat q (by omega) hq).2), ?_⟩
                intro v73o p73hv
                refine And.intro (by omega) ⟨fun h76 => ?_, fun h76 => ?_⟩
                · refine hQ _ _ ?_ ?_ ?_ (fun c j h0 h1 h2 h3 h4 h5 h6 => (zxcj (by omega) (zxcj h5 rfl)))
                  · first
                    | exact Or.inr ⟨by omega, Or.inl rfl⟩
                    | exact Or.inr ⟨by omega, Or.inr rfl⟩
                    | (refine Or.inl ⟨by omega, rfl, Or.inl ⟨rfl, ?_⟩⟩
                       rcases p73hv with h | h
                       · exact h.2
                       · exfalso; omega)
                    | (refine Or.inl ⟨by omega, rfl, Or.inr ⟨rfl, ?_⟩⟩
                       rcases p73hv with h | h
                       · exfalso; omega
                       · exact h.2)
                  · first
                    | exact (show 0 ≤ ev + 1 ∧ ev + 1 ≤ 100 by omega)
                    | exact (show 0 ≤ I 280 24 ∧ I 280 24 ≤ 100 by omega)
                  · intro x y hx hy
                    first
                    | (refine (hro x y hx hy).1.trans ?_
                       rw [if_neg (by omega)])
                    | (rw [if_pos (by omega)]
                       unfold roU
                       refine (show _ = xu I 295 (16 * a + p : Int).toNat (1 + o) 295 (16 * x + y) from rfl).trans ?_
                       split
                       · next h => rw [show 16 * x + y = (16 * a + p : Int).toNat by omega, zxe]; omega
                       · next h => exact zxs (by omega) (hro x y hx hy).1)
                · refine hQ _ _ ?_ ?_ ?_ (fun c j h0 h1 h2 h3 h4 h5 h6 => (zxcj (by omega) (zxcj h5 rfl)))
                  · first
                    | exact Or.inr ⟨by omega, Or.inl rfl⟩
                    | exact Or.inr ⟨by omega, Or.inr rfl⟩
                    | (refine Or.inl ⟨by omega, rfl, Or.inl ⟨rfl, ?_⟩⟩
                       rcases p73hv with h | h
                       · exact h.2
                       · exfalso; omega)
                    | (refine Or.inl ⟨by omega, rfl, Or.inr ⟨rfl, ?_⟩⟩
                       rcases p73hv with h | h
                       · exfalso; omega
                       · exact h.2)
                  · first
                    | exact (show 0 ≤ ev + 1 ∧ ev + 1 ≤ 100 by omega)
                    | exact (show 0 ≤ I 280 24 ∧ I 280 24 ≤ 100 by omega)
                  · intro x y hx hy
                    first
                    | (refine (hro x y hx hy).1.trans ?_
                       rw [if_neg (by omega)])
                    | (rw [if_pos (by omega)]
                       unfold roU
                       refine (show _ = xu I 295 (16 * a + p : Int).toNat (1 + o) 295 (16 * x + y) from rfl).trans ?_
                       split
                       · next h => rw [show 16 * x + y = (16 * a + p : Int).toNat by omega, zxe]; omega
                       · next h => exact zxs (by omega) (hro x y hx hy).1))
def T_B_wif : ZT := fun args I L R S Q => ∃ (a : Int) (ev : Int) (wn : Int) (cn : Nat) (wd : Nat → Int), args = [zvr 280, zvi a] ∧ (zSh S) ∧ (zRs R) ∧ (r32 a) ∧ (I 280 8 = cn) ∧ (cn ≤ 10) ∧ (I 280 24 = ev) ∧ (0 ≤ ev ∧ ev ≤ 100) ∧ (I 280 21 = wn) ∧ (0 ≤ wn ∧ wn ≤ 100) ∧ (∀ x : Nat, x < cn → I 296 x = wd x ∧ (wd x = 0 ∨ wd x = 1)) ∧ ∀ (v : Int) (I' : ZI), ((¬ (0 ≤ a ∧ a < cn) ∧ I' 280 0 = 1 ∧ I' 280 21 = wn) ∨ ((0 ≤ a ∧ a < cn) ∧ I' 280 0 = 0 ∧ ((¬ wd a.toNat = 0 ∧ v = -1 ∧ I' 280 21 = wn) ∨ (wd a.toNat = 0 ∧ v = wn + 1 ∧ I' 280 21 = wn + 1)))) → (0 ≤ I' 280 24 ∧ I' 280 24 ≤ 100) → (∀ x : Nat, x < cn → I' 296 x = if 0 ≤ a ∧ x = a.toNat then 1 else wd x) → (∀ c j : Nat, ¬ (c = 296 ∧ j < cn) → ¬ (c = 280 ∧ j = 21) → ¬ c = 298 → ¬ c = 299 → ¬ c = 300 → ¬ c = 301 → ¬ (c = 280 ∧ j = 0) → ¬ (c = 280 ∧ j = 24) → I' c j = I c j) → Q (some (zvi (v))) I' L R S
theorem sn_B_wif : ZSnd 2 19 35 T_B_wif := ZSnd.of (zT19_35 1) (by
  rintro args I L R S Q hz ⟨a, ev, wn, cn, wd, rfl, hS, hR, ra, hc, hcn, hev, hev2, hwn, hwn2, hw, hQ⟩
  refine And.intro rfl ?_
  refine And.intro (zA_280 hS) (Exists.intro _ (And.intro (zinl_ok (zT19_18 0)) (And.intro rfl ?_)))
  refine And.intro (by omega) ⟨fun h1_3 => ?_, fun h1_3 => ?_⟩
  · refine And.intro (Or.inl rfl) ?_
    refine And.intro (zRb rfl) (zbt rfl ?_)
    refine And.intro (zA_280 hS) ⟨_, (zWi (zRb rfl)), ?_⟩
    refine And.intro (zA_280 hS) (zrd (v := 1) rfl ?_)
    refine And.intro (zRb rfl) (zbf rfl ?_)
    refine hQ _ _ ?_ ?_ ?_ (fun c j h0 h1 h2 h3 h4 h5 h6 h7 => (zxcj h6 rfl))
    · first
      | exact Or.inl ⟨by omega, rfl, hwn⟩
      | exact Or.inr ⟨by omega, rfl, Or.inl ⟨by omega, rfl, hwn⟩⟩
      | exact Or.inr ⟨by omega, rfl, Or.inr ⟨by omega, rfl, rfl⟩⟩
    · first
      | exact (show 0 ≤ ev + 1 ∧ ev + 1 ≤ 100 by omega)
      | exact (show 0 ≤ I 280 24 ∧ I 280 24 ≤ 100 by omega)
    · intro x hx
      have q := hw x hx
      first
      | (refine q.1.trans ?_
         by_cases h : x = a.toNat
         · by_cases h9 : 0 ≤ a
           · rw [if_pos ⟨h9, h⟩]
             subst h
             omega
           · rw [if_neg (by omega)]
         · rw [if_neg (by omega)])
      | (refine (show _ = xu I 296 a.toNat 1 296 x from rfl).trans ?_
         by_cases h : x = a.toNat
         · rw [if_pos (by omega), h, zxe]
         · rw [if_neg (by omega)]
           exact zxs h q.1)
  · refine And.intro (zA_280 hS) (zrd (v := cn) hc ?_)
    refine And.intro ⟨(by omega), (by omega)⟩ ⟨fun h9_3 => ?_, fun h9_3 => ?_⟩
    · refine And.intro (Or.inl rfl) ?_
      refine And.intro (zRb rfl) (zbt rfl ?_)
      refine And.intro (zA_280 hS) ⟨_, (zWi (zRb rfl)), ?_⟩
      refine And.intro (zA_280 hS) (zrd (v := 1) rfl ?_)
      refine And.intro (zRb rfl) (zbf rfl ?_)
      refine hQ _ _ ?_ ?_ ?_ (fun c j h0 h1 h2 h3 h4 h5 h6 h7 => (zxcj h6 rfl))
      · first
        | exact Or.inl ⟨by omega, rfl, hwn⟩
        | exact Or.inr ⟨by omega, rfl, Or.inl ⟨by omega, rfl, hwn⟩⟩
        | exact Or.inr ⟨by omega, rfl, Or.inr ⟨by omega, rfl, rfl⟩⟩
      · first
        | exact (show 0 ≤ ev + 1 ∧ ev + 1 ≤ 100 by omega)
        | exact (show 0 ≤ I 280 24 ∧ I 280 24 ≤ 100 by omega)
      · intro x hx
        have q := hw x hx
        first
        | (refine q.1.trans ?_
           by_cases h : x = a.toNat
           · by_cases h9 : 0 ≤ a
             · rw [if_pos ⟨h9, h⟩]
               subst h
               omega
             · rw [if_neg (by omega)]
           · rw [if_neg (by omega)])
        | (refine (show _ = xu I 296 a.toNat 1 296 x from rfl).trans ?_
           by_cases h : x = a.toNat
           · rw [if_pos (by omega), h, zxe]
           · rw [if_neg (by omega)]
             exact zxs h q.1)
    · refine And.intro (Or.inr rfl) ?_
      refine And.intro (zRb rfl) (zbf rfl ?_)
      refine And.intro (zA_280 hS) ⟨_, (zWi (zRb rfl)), ?_⟩
      refine And.intro (zA_280 hS) (zrd (v := 0) rfl ?_)
      refine And.intro (zRb rfl) (zbt rfl ?_)
      refine And.intro (zA_280 hS) (zrdR (v := some 296) (zR_280_20 hR) ?_)
      refine And.intro (Or.inr (zP_296 hS (by omega) (by omega))) (fun v31 e31 r31 => ?_)
      have f31 : v31 = wd a.toNat := (e31.trans (hw _ (by omega)).1)
      refine And.intro r31 ⟨fun h32 => ?_, fun h32 => ?_⟩
      · refine And.intro (zA_280 hS) (zrdR (v := some 296) (zR_280_20 hR) ?_)
        refine And.intro ⟨(zx0 rfl), Or.inr ⟨(zP_296 hS (by omega) (by omega)), (Or.inr rfl)⟩⟩ ?_
        refine And.intro (zA_280 hS) (zrd (v := wn) hwn ?_)
        refine And.intro (zA_280 hS) ⟨_, (zWi (by omega)), ?_⟩
        refine And.intro (zA_280 hS) (Exists.intro _ (And.intro (zinl_ok (zT19_22 0)) (And.intro rfl ?_)))
        refine And.intro (zA_280 hS) (zrd (v := ev) hev ?_)
        refine And.intro ⟨(by omega), (zRb rfl)⟩ ⟨fun h6_59 => ?_, fun h6_59 => ?_⟩
        · refine And.intro (zA_280 hS) (zrdR (v := some 298) (zR_280_25 hR) ?_)
          refine And.intro (zA_280 hS) (zrd (v := ev) hev ?_)
          refine And.intro ⟨(zx0 rfl), (zP_298 hS (by omega) (by omega))⟩ ⟨_, (zWi (by omega)), ?_⟩
          refine And.intro (zA_280 hS) (zrdR (v := some 299) (zR_280_26 hR) ?_)
          refine And.intro (zA_280 hS) (zrd (v := ev) hev ?_)
          refine And.intro ⟨(zx0 rfl), (zP_299 hS (by omega) (by omega))⟩ ⟨_, (zWi (zRb rfl)), ?_⟩
          refine And.intro (zA_280 hS) (zrdR (v := some 300) (zR_280_27 hR) ?_)
          refine And.intro (zA_280 hS) (zrd (v := ev) hev ?_)
          refine And.intro ⟨(zx0 rfl), (zP_300 hS (by omega) (by omega))⟩ ⟨_, (zWi (zRb rfl)), ?_⟩
          refine And.intro (zA_280 hS) (zrdR (v := some 301) (zR_280_28 hR) ?_)
          refine And.intro (zA_280 hS) (zrd (v := ev) hev ?_)
          refine And.intro ⟨(zx0 rfl), (zP_301 hS (by omega) (by omega))⟩ ⟨_, (zWi (zRb rfl)), ?_⟩
          refine And.intro (zA_280 hS) (zrd (v := ev) hev ?_)
          refine And.intro (zA_280 hS) ⟨_, (zWi (by omega)), ?_⟩
          refine And.intro (zA_280 hS) (zrd (v := (wn + 1)) rfl ?_)
          refine hQ _ _ ?_ ?_ ?_ (fun c j h0 h1 h2 h3 h4 h5 h6 h7 => (zxcj h7 (zxu h5 (zxu h4 (zxu h3 (zxu h2 (zxcj h1 (zxcj (by omega) (zxcj h6 rfl)))))))))
          · first
            | exact Or.inl ⟨by omega, rfl, hwn⟩
            | exact Or.inr ⟨by omega, rfl, Or.inl ⟨by omega, rfl, hwn⟩⟩
            | exact Or.inr ⟨by omega, rfl, Or.inr ⟨by omega, rfl, rfl⟩⟩
          · first
            | exact (show 0 ≤ ev + 1 ∧ ev + 1 ≤ 100 by omega)
            | exact (show 0 ≤ I 280 24 ∧ I 280 24 ≤ 100 by omega)
          · intro x hx
            have q := hw x hx
            first
            | (refine q.1.trans ?_
               by_cases h : x = a.toNat
               · by_cases h9 : 0 ≤ a
                 · rw [if_pos ⟨h9, h⟩]
                   subst h
                   omega
                 · rw [if_neg (by omega)]
               · rw [if_neg (by omega)])
            | (refine (show _ = xu I 296 a.toNat 1 296 x from rfl).trans ?_
               by_cases h : x = a.toNat
               · rw [if_pos (by omega), h, zxe]
               · rw [if_neg (by omega)]
                 exact zxs h q.1)
        · refine And.intro (zA_280 hS) (zrd (v := (wn + 1)) rfl ?_)
          refine hQ _ _ ?_ ?_ ?_ (fun c j h0 h1 h2 h3 h4 h5 h6 h7 => (zxcj h1 (zxcj (by omega) (zxcj h6 rfl))))
          · first
            | exact Or.inl ⟨by omega, rfl, hwn⟩
            | exact Or.inr ⟨by omega, rfl, Or.inl ⟨by omega, rfl, hwn⟩⟩
            | exact Or.inr ⟨by omega, rfl, Or.inr ⟨by omega, rfl, rfl⟩⟩
          · first
            | exact (show 0 ≤ ev + 1 ∧ ev + 1 ≤ 100 by omega)
            | exact (show 0 ≤ I 280 24 ∧ I 280 24 ≤ 100 by omega)
          · intro x hx
            have q := hw x hx
            first
            | (refine q.1.trans ?_
               by_cases h : x = a.toNat
               · by_cases h9 : 0 ≤ a
                 · rw [if_pos ⟨h9, h⟩]
                   subst h
                   omega
                 · rw [if_neg (by omega)]
               · rw [if_neg (by omega)])
            | (refine (show _ = xu I 296 a.toNat 1 296 x from rfl).trans ?_
               by_cases h : x = a.toNat
               · rw [if_pos (by omega), h, zxe]
               · rw [if_neg (by omega)]
                 exact zxs h q.1)
      · refine hQ _ _ ?_ ?_ ?_ (fun c j h0 h1 h2 h3 h4 h5 h6 h7 => (zxcj h6 rfl))
        · first
          | exact Or.inl ⟨by omega, rfl, hwn⟩
          | exact Or.inr ⟨by omega, rfl, Or.inl ⟨by omega, rfl, hwn⟩⟩
          | exact Or.inr ⟨by omega, rfl, Or.inr ⟨by omega, rfl, rfl⟩⟩
        · first
          | exact (show 0 ≤ ev + 1 ∧ ev + 1 ≤ 100 by omega)
          | exact (show 0 ≤ I 280 24 ∧ I 280 24 ≤ 100 by omega)
        · intro x hx
          have q := hw x hx
          first
          | (refine q.1.trans ?_
             by_cases h : x = a.toNat
             · by_cases h9 : 0 ≤ a
               · rw [if_pos ⟨h9, h⟩]
                 subst h
                 omega
               · rw [if_neg (by omega)]
             · rw [if_neg (by omega)])
          | (refine (show _ = xu I 296 a.toNat 1 296 x from rfl).trans ?_
             by_cases h : x = a.toNat
             · rw [if_pos (by omega), h, zxe]
             · rw [if_neg (by omega)]
               exact zxs h q.1))
def T_Y_apf : ZT := fun args I L R S Q => ∃ (a : Int) (p : Int) (o : Int) (ev : Int) (cn : Nat) (ro : Nat → Nat → Int), args = [zvr 165, zvi a, zvi p, zvi o] ∧ (zSh S) ∧ (zRs R) ∧ (r32 a ∧ r32 p ∧ r32 o) ∧ (I 280 8 = cn) ∧ (cn ≤ 10) ∧ (I 280 24 = ev) ∧ (0 ≤ ev ∧ ev ≤ 100) ∧ (∀ x p : Nat, x < cn → p < 16 → I 295 (16 * x + p) = ro x p + 1 ∧ -1 ≤ ro x p ∧ ro x p ≤ 3) ∧ ∀ (v : Int) (I' : ZI), (((0 ≤ a ∧ a < cn ∧ 0 ≤ p ∧ p < 16 ∧ 0 ≤ o ∧ o < 4) ∧ I' 165 0 = 0 ∧ ((v = 1 ∧ apr (roU ro a p o a.toNat)) ∨ (v = 0 ∧ ¬ apr (roU ro a p o a.toNat)))) ∨ (¬ (0 ≤ a ∧ a < cn ∧ 0 ≤ p ∧ p < 16 ∧ 0 ≤ o ∧ o < 4) ∧ I' 165 0 = 2 ∧ v = -1)) → (0 ≤ I' 280 24 ∧ I' 280 24 ≤ 100) → (∀ x y : Nat, x < cn → y < 16 → I' 295 (16 * x + y) = (if (0 ≤ a ∧ a < cn ∧ 0 ≤ p ∧ p < 16 ∧ 0 ≤ o ∧ o < 4) then roU ro a p o x y else ro x y) + 1) → (∀ c j : Nat, ¬ (c = 295 ∧ j < 16 * cn) → ¬ c = 298 → ¬ c = 299 → ¬ c = 300 → ¬ c = 301 → ¬ (c = 280 ∧ j = 0) → ¬ (c = 280 ∧ j = 24) → ¬ (c = 165 ∧ j = 0) → I' c j = I c j) → Q (some (zvi (v))) I' L R S
theorem sn_Y_apf : ZSnd 3 21 1 T_Y_apf := ZSnd.of (zT21_1 2) (by
  rintro args I L R S Q hz ⟨a, p, o, ev, cn, ro, rfl, hS, hR, ra, hc, hcn, hev, hev2, hro, hQ⟩
  refine And.intro rfl ?_
  refine And.intro (zA_165 hS) (zrdR (v := some 280) (zR_165_50 hR) ?_)
  refine And.intro (zA_280 hS) ⟨_, sn_B_apf.up (by decide), ?_⟩
  refine ⟨(a : Int), (p : Int), (o : Int), (ev : Int), _, _, rfl, hS, hR, (by omega), hc, (by omega), hev, (by omega), (by first | exact hro | exact (fun x p h2 h3 => ⟨rfl.trans (hro x p h2 h3).1, (hro x p h2 h3).2⟩) | (clear hQ; grind [xu])), ?_⟩
  intro v7o I7o p7hv p7bhe2 p7bbhr2 p7bbbfr
  have g7 : ((0 ≤ a ∧ a < cn ∧ 0 ≤ p ∧ p < 16 ∧ 0 ≤ o ∧ o < 4) ∧ I7o 280 0 = 0 ∧ 0 ≤ v7o ∧ v7o ≤ 1) ∨ (¬ (0 ≤ a ∧ a < cn ∧ 0 ≤ p ∧ p < 16 ∧ 0 ≤ o ∧ o < 4) ∧ (I7o 280 0 = 1 ∨ I7o 280 0 = 2)) := (by rcases p7hv with ⟨q1, q0, q2 | q2⟩ | q1; exact Or.inl ⟨q1, q0, by omega, by omega⟩; exact Or.inl ⟨q1, q0, by omega, by omega⟩; exact Or.inr q1)
  refine And.intro (zA_165 hS) (zrdR (v := some 280) (zR_165_50 hR) ?_)
  refine And.intro (zA_280 hS) (Exists.intro _ (And.intro (zinl_ok (zT19_33 1)) (And.intro rfl ?_)))
  refine And.intro (zA_280 hS) (fun v1_16 e1_16 r1_16 => ?_)
  refine And.intro r1_16 ⟨fun h19 => ?_, fun h19 => ?_⟩
  · refine And.intro (zA_165 hS) (Exists.intro _ (And.intro (zinl_ok (zT21_47 1)) (And.intro rfl ?_)))
    refine And.intro (zA_165 hS) ⟨_, (zWi (zRb rfl)), ?_⟩
    refine hQ _ _ ?_ p7bhe2 (fun x y hx hy => zxu (by omega) (p7bbhr2 x y hx hy)) (fun c j h0 h1 h2 h3 h4 h5 h6 h7 => (zxcj h7 ((p7bbbfr c j h0 h1 h2 h3 h4 h5 h6).trans rfl)))
    · rcases p7hv with ⟨q1, q0, q2⟩ | q1
      · first
        | (exfalso; omega)
        | exact Or.inl ⟨q1, zxe, q2⟩
      · first
        | (exfalso; omega)
        | exact Or.inr ⟨q1.1, zxe, rfl⟩
  · refine And.intro (zA_165 hS) (Exists.intro _ (And.intro (zinl_ok (zT21_12 1)) (And.intro rfl ?_)))
    refine And.intro (zA_165 hS) ⟨_, (zWi (zRb rfl)), ?_⟩
    refine hQ _ _ ?_ p7bhe2 (fun x y hx hy => zxu (by omega) (p7bbhr2 x y hx hy)) (fun c j h0 h1 h2 h3 h4 h5 h6 h7 => (zxcj h7 ((p7bbbfr c j h0 h1 h2 h3 h4 h5 h6).trans rfl)))
    · rcases p7hv with ⟨q1, q0, q2⟩ | q1
      · first
        | (exfalso; omega)
        | exact Or.inl ⟨q1, zxe, q2⟩
      · first
        | (exfalso; omega)
        | exact Or.inr ⟨q1.1, zxe, rfl⟩)
def T_Y_wif : ZT := fun args I L R S Q => ∃ (a : Int) (ev : Int) (wn : Int) (cn : Nat) (wd : Nat → Int), args = [zvr 165, zvi a] ∧ (zSh S) ∧ (zRs R) ∧ (r32 a) ∧ (I 280 8 = cn) ∧ (cn ≤ 10) ∧ (I 280 24 = ev) ∧ (0 ≤ ev ∧ ev ≤ 100) ∧ (I 280 21 = wn) ∧ (0 ≤ wn ∧ wn ≤ 100) ∧ (∀ x : Nat, x < cn → I 296 x = wd x ∧ (wd x = 0 ∨ wd x = 1)) ∧ ∀ (v : Int) (I' : ZI), ((¬ (0 ≤ a ∧ a < cn) ∧ v = 0 ∧ I' 165 0 = 2) ∨ ((0 ≤ a ∧ a < cn) ∧ ((¬ wd a.toNat = 0 ∧ v = 0 ∧ I' 165 0 = 4) ∨ (wd a.toNat = 0 ∧ v = 1 ∧ I' 165 0 = 0)))) → (0 ≤ I' 280 24 ∧ I' 280 24 ≤ 100) → (∀ x : Nat, x < cn → I' 296 x = if 0 ≤ a ∧ x = a.toNat then 1 else wd x) → (I' 280 21 = if (0 ≤ a ∧ a < cn) ∧ wd a.toNat = 0 then wn + 1 else wn) → (∀ c j : Nat, ¬ (c = 296 ∧ j < cn) → ¬ (c = 280 ∧ j = 21) → ¬ c = 298 → ¬ c = 299 → ¬ c = 300 → ¬ c = 301 → ¬ (c = 280 ∧ j = 0) → ¬ (c = 280 ∧ j = 24) → ¬ (c = 165 ∧ j = 0) → I' c j = I c j) → Q (some (zvi (v))) I' L R S
theorem sn_Y_wif : ZSnd 3 21 79 T_Y_wif := ZSnd.of (zT21_79 2) (by
  rintro args I L R S Q hz ⟨a, ev, wn, cn, wd, rfl, hS, hR, ra, hc, hcn, hev, hev2, hwn, hwn2, hw, hQ⟩
  refine And.intro rfl ?_
  refine And.intro (zA_165 hS) (zrdR (v := some 280) (zR_165_50 hR) ?_)
  refine And.intro (zA_280 hS) ⟨_, sn_B_wif.up (by decide), ?_⟩
  refine ⟨(a : Int), (ev : Int), (wn : Int), _, _, rfl, hS, hR, (by omega), hc, (by omega), hev, (by omega), hwn, (by omega), (by first | exact hw | exact (fun x h1 => ⟨rfl.trans (hw x h1).1, (hw x h1).2⟩) | (clear hQ; grind [xu])), ?_⟩
  intro v5o I5o p5hv p5bhe2 p5bbhw2 p5bbbfr
  have g5 : (¬ (0 ≤ a ∧ a < cn) ∧ I5o 280 0 = 1 ∧ I5o 280 21 = wn) ∨ ((0 ≤ a ∧ a < cn) ∧ I5o 280 0 = 0 ∧ ((¬ wd a.toNat = 0 ∧ v5o = -1 ∧ I5o 280 21 = wn) ∨ (wd a.toNat = 0 ∧ v5o = wn + 1 ∧ I5o 280 21 = wn + 1))) := p5hv
  refine And.intro (zA_165 hS) (zrdR (v := some 280) (zR_165_50 hR) ?_)
  refine And.intro (zA_280 hS) (Exists.intro _ (And.intro (zinl_ok (zT19_33 1)) (And.intro rfl ?_)))
  refine And.intro (zA_280 hS) (fun v1_14 e1_14 r1_14 => ?_)
  refine And.intro r1_14 ⟨fun h17 => ?_, fun h17 => ?_⟩
  · refine And.intro ⟨(by omega), (zRb rfl)⟩ ⟨fun h26 => ?_, fun h26 => ?_⟩
    · refine And.intro (zA_165 hS) (Exists.intro _ (And.intro (zinl_ok (zT21_48 1)) (And.intro rfl ?_)))
      refine And.intro (zA_165 hS) ⟨_, (zWi (zRb rfl)), ?_⟩
      refine And.intro (zRb rfl) (zbt rfl ?_)
      refine And.intro (Or.inl rfl) ?_
      refine And.intro (zRb rfl) (zbf rfl ?_)
      refine And.intro (Or.inr rfl) ?_
      refine hQ _ _ ?_ p5bhe2 (fun x hx => zxu (by omega) (p5bbhw2 x hx)) ?_ (fun c j h0 h1 h2 h3 h4 h5 h6 h7 h8 => (zxcj h8 ((p5bbbfr c j h0 h1 h2 h3 h4 h5 h6 h7).trans rfl)))
      · rcases p5hv with q1 | ⟨q1, q0, q2 | q2⟩
        · first
          | (exfalso; omega)
          | exact Or.inl ⟨q1.1, rfl, zxe⟩
        · first
          | (exfalso; omega)
          | exact Or.inr ⟨q1, Or.inl ⟨q2.1, rfl, zxe⟩⟩
        · first
          | (exfalso; omega)
          | exact Or.inr ⟨q1, Or.inr ⟨q2.1, rfl, zxe⟩⟩
      · refine (zxu (by decide) rfl).trans ?_
        rcases p5hv with q1 | ⟨q1, q0, q2 | q2⟩
        · rw [if_neg (fun q => q1.1 q.1)]; exact q1.2.2
        · rw [if_neg (fun q => q2.1 q.2)]; exact q2.2.2
        · rw [if_pos ⟨q1, q2.1⟩]; exact q2.2.2
    · refine And.intro (zA_165 hS) (Exists.intro _ (And.intro (zinl_ok (zT21_48 1)) (And.intro rfl ?_)))
      refine And.intro (zA_165 hS) ⟨_, (zWi (zRb rfl)), ?_⟩
      refine And.intro (zRb rfl) (zbf rfl ?_)
      refine And.intro (Or.inr rfl) ?_
      refine And.intro (zRb rfl) (zbt rfl ?_)
      refine And.intro (Or.inl rfl) ?_
      refine hQ _ _ ?_ p5bhe2 (fun x hx => zxu (by omega) (p5bbhw2 x hx)) ?_ (fun c j h0 h1 h2 h3 h4 h5 h6 h7 h8 => (zxcj h8 ((p5bbbfr c j h0 h1 h2 h3 h4 h5 h6 h7).trans rfl)))
      · rcases p5hv with q1 | ⟨q1, q0, q2 | q2⟩
        · first
          | (exfalso; omega)
          | exact Or.inl ⟨q1.1, rfl, zxe⟩
        · first
          | (exfalso; omega)
          | exact Or.inr ⟨q1, Or.inl ⟨q2.1, rfl, zxe⟩⟩
        · first
          | (exfalso; omega)
          | exact Or.inr ⟨q1, Or.inr ⟨q2.1, rfl, zxe⟩⟩
      · refine (zxu (by decide) rfl).trans ?_
        rcases p5hv with q1 | ⟨q1, q0, q2 | q2⟩
        · rw [if_neg (fun q => q1.1 q.1)]; exact q1.2.2
        · rw [if_neg (fun q => q2.1 q.2)]; exact q2.2.2
        · rw [if_pos ⟨q1, q2.1⟩]; exact q2.2.2
  · refine And.intro (zA_165 hS) (Exists.intro _ (And.intro (zinl_ok (zT21_48 1)) (And.intro rfl ?_)))
    refine And.intro (zA_165 hS) ⟨_, (zWi (zRb rfl)), ?_⟩
    refine And.intro (zRb rfl) (zbf rfl ?_)
    refine And.intro (Or.inr rfl) ?_
    refine And.intro (zRb rfl) (zbt rfl ?_)
    refine And.intro (Or.inl rfl) ?_
    refine hQ _ _ ?_ p5bhe2 (fun x hx => zxu (by omega) (p5bbhw2 x hx)) ?_ (fun c j h0 h1 h2 h3 h4 h5 h6 h7 h8 => (zxcj h8 ((p5bbbfr c j h0 h1 h2 h3 h4 h5 h6 h7).trans rfl)))
    · rcases p5hv with q1 | ⟨q1, q0, q2 | q2⟩
      · first
        | (exfalso; omega)
        | exact Or.inl ⟨q1.1, rfl, zxe⟩
      · first
        | (exfalso; omega)
        | exact Or.inr ⟨q1, Or.inl ⟨q2.1, rfl, zxe⟩⟩
      · first
        | (exfalso; omega)
        | exact Or.inr ⟨q1, Or.inr ⟨q2.1, rfl, zxe⟩⟩
    · refine (zxu (by decide) rfl).trans ?_
      rcases p5hv with q1 | ⟨q1, q0, q2 | q2⟩
      · rw [if_neg (fun q => q1.1 q.1)]; exact q1.2.2
      · rw [if_neg (fun q => q2.1 q.2)]; exact q2.2.2
      · rw [if_pos ⟨q1, q2.1⟩]; exact q2.2.2)
