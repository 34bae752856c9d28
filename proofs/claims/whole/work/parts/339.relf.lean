/-! relf -/
def T_B_with : ZT := fun args I L R S Q => ∃ (a : Int) (ev : Int) (wn : Int) (cn : Nat) (wd : Nat → Int), args = [zvr 280, zvi a] ∧ (zSh S) ∧ (zRs R) ∧ (r32 a) ∧ (I 280 8 = cn) ∧ (cn ≤ 10) ∧ (I 280 24 = ev) ∧ (0 ≤ ev ∧ ev ≤ 100) ∧ (I 280 21 = wn) ∧ (0 ≤ wn ∧ wn ≤ 100) ∧ (∀ x : Nat, x < cn → I 296 x = wd x ∧ (wd x = 0 ∨ wd x = 1)) ∧ ∀ (v : Int) (I' : ZI), ((¬ (0 ≤ a ∧ a < cn) ∧ I' 280 0 = 1 ∧ I' 280 21 = wn) ∨ ((0 ≤ a ∧ a < cn) ∧ I' 280 0 = 0 ∧ ((¬ wd a.toNat = 0 ∧ v = -1 ∧ I' 280 21 = wn) ∨ (wd a.toNat = 0 ∧ v = wn + 1 ∧ I' 280 21 = wn + 1)))) → (0 ≤ I' 280 24 ∧ I' 280 24 ≤ 100) → (∀ x : Nat, x < cn → I' 296 x = if 0 ≤ a ∧ x = a.toNat then 1 else wd x) → (∀ c j : Nat, ¬ c = 296 → ¬ (c = 280 ∧ j = 21) → ¬ c = 298 → ¬ c = 299 → ¬ c = 300 → ¬ c = 301 → ¬ (c = 280 ∧ j = 0) → ¬ (c = 280 ∧ j = 24) → I' c j = I c j) → Q (some (zvi (v))) I' L R S
theorem sn_B_with : ZSnd 2 19 35 T_B_with := ZSnd.of (zT19_35 1) (by
  rintro args I L R S Q hz ⟨a, ev, wn, cn, wd, rfl, hS, hR, ra, hc, hcn, hev, hev2, hwn, hwn2, hw, hQ⟩
  refine And.intro rfl ?_
  refine And.intro (zA_280 hS) (Exists.intro _ (And.intro (zinl_ok (zT19_18 0)) (And.intro rfl ?_)))
  refine And.intro (by omega) ⟨fun h1_3 => ?_, fun h1_3 => ?_⟩
  · refine And.intro (Or.inl rfl) ?_
    refine And.intro (zRb rfl) (zbt rfl ?_)
    refine And.intro (zA_280 hS) ⟨_, (zWi (zRb rfl)), ?_⟩
    refine And.intro (zA_280 hS) (zrd (v := 1) rfl ?_)
    refine And.intro (zRb rfl) (zbf rfl ?_)
    refine hQ _ _ ?_ ?_ ?_ (fun c j h0 h1 h2 h3 h4 h5 h6 h7 => (zxcj h6 rfl))
    · first
      | exact Or.inl ⟨by omega, rfl, hwn⟩
      | exact Or.inr ⟨by omega, rfl, Or.inl ⟨by omega, rfl, hwn⟩⟩
      | exact Or.inr ⟨by omega, rfl, Or.inr ⟨by omega, rfl, rfl⟩⟩
    · first
      | exact (show 0 ≤ ev + 1 ∧ ev + 1 ≤ 100 by omega)
      | exact (show 0 ≤ I 280 24 ∧ I 280 24 ≤ 100 by omega)
    · intro x hx
      have q := hw x hx
      first
      | (refine q.1.trans ?_
         by_cases h : x = a.toNat
         · by_cases h9 : 0 ≤ a
           · rw [if_pos ⟨h9, h⟩]
             subst h
             omega
           · rw [if_neg (by omega)]
         · rw [if_neg (by omega)])
      | (refine (show _ = xu I 296 a.toNat 1 296 x from rfl).trans ?_
         by_cases h : x = a.toNat
         · rw [if_pos (by omega), h, zxe]
         · rw [if_neg (by omega)]
           exact zxs h q.1)
  · refine And.intro (zA_280 hS) (zrd (v := cn) hc ?_)
    refine And.intro ⟨(by omega), (by omega)⟩ ⟨fun h9_3 => ?_, fun h9_3 => ?_⟩
    · refine And.intro (Or.inl rfl) ?_
      refine And.intro (zRb rfl) (zbt rfl ?_)
      refine And.intro (zA_280 hS) ⟨_, (zWi (zRb rfl)), ?_⟩
      refine And.intro (zA_280 hS) (zrd (v := 1) rfl ?_)
      refine And.intro (zRb rfl) (zbf rfl ?_)
      refine hQ _ _ ?_ ?_ ?_ (fun c j h0 h1 h2 h3 h4 h5 h6 h7 => (zxcj h6 rfl))
      · first
        | exact Or.inl ⟨by omega, rfl, hwn⟩
        | exact Or.inr ⟨by omega, rfl, Or.inl ⟨by omega, rfl, hwn⟩⟩
        | exact Or.inr ⟨by omega, rfl, Or.inr ⟨by omega, rfl, rfl⟩⟩
      · first
        | exact (show 0 ≤ ev + 1 ∧ ev + 1 ≤ 100 by omega)
        | exact (show 0 ≤ I 280 24 ∧ I 280 24 ≤ 100 by omega)
      · intro x hx
        have q := hw x hx
        first
        | (refine q.1.trans ?_
           by_cases h : x = a.toNat
           · by_cases h9 : 0 ≤ a
             · rw [if_pos ⟨h9, h⟩]
               subst h
               omega
             · rw [if_neg (by omega)]
           · rw [if_neg (by omega)])
        | (refine (show _ = xu I 296 a.toNat 1 296 x from rfl).trans ?_
           by_cases h : x = a.toNat
           · rw [if_pos (by omega), h, zxe]
           · rw [if_neg (by omega)]
             exact zxs h q.1)
    · refine And.intro (Or.inr rfl) ?_
      refine And.intro (zRb rfl) (zbf rfl ?_)
      refine And.intro (zA_280 hS) ⟨_, (zWi (zRb rfl)), ?_⟩
      refine And.intro (zA_280 hS) (zrd (v := 0) rfl ?_)
      refine And.intro (zRb rfl) (zbt rfl ?_)
      refine And.intro (zA_280 hS) (zrdR (v := some 296) (zR_280_20 hR) ?_)
      refine And.intro (Or.inr (zP_296 hS (by omega) (by omega))) (fun v31 e31 r31 => ?_)
      have f31 : v31 = wd a.toNat := (e31.trans (hw _ (by omega)).1)
      refine And.intro r31 ⟨fun h32 => ?_, fun h32 => ?_⟩
      · refine And.intro (zA_280 hS) (zrdR (v := some 296) (zR_280_20 hR) ?_)
        refine And.intro ⟨(zx0 rfl), Or.inr ⟨(zP_296 hS (by omega) (by omega)), (Or.inr rfl)⟩⟩ ?_
        refine And.intro (zA_280 hS) (zrd (v := wn) hwn ?_)
        refine And.intro (zA_280 hS) ⟨_, (zWi (by omega)), ?_⟩
        refine And.intro (zA_280 hS) (Exists.intro _ (And.intro (zinl_ok (zT19_22 0)) (And.intro rfl ?_)))
        refine And.intro (zA_280 hS) (zrd (v := ev) hev ?_)
        refine And.intro ⟨(by omega), (zRb rfl)⟩ ⟨fun h6_59 => ?_, fun h6_59 => ?_⟩
        · refine And.intro (zA_280 hS) (zrdR (v := some 298) (zR_280_25 hR) ?_)
          refine And.intro (zA_280 hS) (zrd (v := ev) hev ?_)
          refine And.intro ⟨(zx0 rfl), (zP_298 hS (by omega) (by omega))⟩ ⟨_, (zWi (by omega)), ?_⟩
          refine And.intro (zA_280 hS) (zrdR (v := some 299) (zR_280_26 hR) ?_)
          refine And.intro (zA_280 hS) (zrd (v := ev) hev ?_)
          refine And.intro ⟨(zx0 rfl), (zP_299 hS (by omega) (by omega))⟩ ⟨_, (zWi (zRb rfl)), ?_⟩
          refine And.intro (zA_280 hS) (zrdR (v := some 300) (zR_280_27 hR) ?_)
          refine And.intro (zA_280 hS) (zrd (v := ev) hev ?_)
          refine And.intro ⟨(zx0 rfl), (zP_300 hS (by omega) (by omega))⟩ ⟨_, (zWi (zRb rfl)), ?_⟩
          refine And.intro (zA_280 hS) (zrdR (v := some 301) (zR_280_28 hR) ?_)
          refine And.intro (zA_280 hS) (zrd (v := ev) hev ?_)
          refine And.intro ⟨(zx0 rfl), (zP_301 hS (by omega) (by omega))⟩ ⟨_, (zWi (zRb rfl)), ?_⟩
          refine And.intro (zA_280 hS) (zrd (v := ev) hev ?_)
          refine And.intro (zA_280 hS) ⟨_, (zWi (by omega)), ?_⟩
          refine And.intro (zA_280 hS) (zrd (v := (wn + 1)) rfl ?_)
          refine hQ _ _ ?_ ?_ ?_ (fun c j h0 h1 h2 h3 h4 h5 h6 h7 => (zxcj h7 (zxu h5 (zxu h4 (zxu h3 (zxu h2 (zxcj h1 (zxu h0 (zxcj h6 rfl)))))))))
          · first
            | exact Or.inl ⟨by omega, rfl, hwn⟩
            | exact Or.inr ⟨by omega, rfl, Or.inl ⟨by omega, rfl, hwn⟩⟩
            | exact Or.inr ⟨by omega, rfl, Or.inr ⟨by omega, rfl, rfl⟩⟩
          · first
            | exact (show 0 ≤ ev + 1 ∧ ev + 1 ≤ 100 by omega)
            | exact (show 0 ≤ I 280 24 ∧ I 280 24 ≤ 100 by omega)
          · intro x hx
            have q := hw x hx
            first
            | (refine q.1.trans ?_
               by_cases h : x = a.toNat
               · by_cases h9 : 0 ≤ a
                 · rw [if_pos ⟨h9, h⟩]
                   subst h
                   omega
                 · rw [if_neg (by omega)]
               · rw [if_neg (by omega)])
            | (refine (show _ = xu I 296 a.toNat 1 296 x from rfl).trans ?_
               by_cases h : x = a.toNat
               · rw [if_pos (by omega), h, zxe]
               · rw [if_neg (by omega)]
                 exact zxs h q.1)
        · refine And.intro (zA_280 hS) (zrd (v := (wn + 1)) rfl ?_)
          refine hQ _ _ ?_ ?_ ?_ (fun c j h0 h1 h2 h3 h4 h5 h6 h7 => (zxcj h1 (zxu h0 (zxcj h6 rfl))))
          · first
            | exact Or.inl ⟨by omega, rfl, hwn⟩
            | exact Or.inr ⟨by omega, rfl, Or.inl ⟨by omega, rfl, hwn⟩⟩
            | exact Or.inr ⟨by omega, rfl, Or.inr ⟨by omega, rfl, rfl⟩⟩
          · first
            | exact (show 0 ≤ ev + 1 ∧ ev + 1 ≤ 100 by omega)
            | exact (show 0 ≤ I 280 24 ∧ I 280 24 ≤ 100 by omega)
          · intro x hx
            have q := hw x hx
            first
            | (refine q.1.trans ?_
               by_cases h : x = a.toNat
               · by_cases h9 : 0 ≤ a
                 · rw [if_pos ⟨h9, h⟩]
                   subst h
                   omega
                 · rw [if_neg (by omega)]
               · rw [if_neg (by omega)])
            | (refine (show _ = xu I 296 a.toNat 1 296 x from rfl).trans ?_
               by_cases h : x = a.toNat
               · rw [if_pos (by omega), h, zxe]
               · rw [if_neg (by omega)]
                 exact zxs h q.1)
      · refine hQ _ _ ?_ ?_ ?_ (fun c j h0 h1 h2 h3 h4 h5 h6 h7 => (zxcj h6 rfl))
        · first
          | exact Or.inl ⟨by omega, rfl, hwn⟩
          | exact Or.inr ⟨by omega, rfl, Or.inl ⟨by omega, rfl, hwn⟩⟩
          | exact Or.inr ⟨by omega, rfl, Or.inr ⟨by omega, rfl, rfl⟩⟩
        · first
          | exact (show 0 ≤ ev + 1 ∧ ev + 1 ≤ 100 by omega)
          | exact (show 0 ≤ I 280 24 ∧ I 280 24 ≤ 100 by omega)
        · intro x hx
          have q := hw x hx
          first
          | (refine q.1.trans ?_
             by_cases h : x = a.toNat
             · by_cases h9 : 0 ≤ a
               · rw [if_pos ⟨h9, h⟩]
                 subst h
                 omega
               · rw [if_neg (by omega)]
             · rw [if_neg (by omega)])
          | (refine (show _ = xu I 296 a.toNat 1 296 x from rfl).trans ?_
             by_cases h : x = a.toNat
             · rw [if_pos (by omega), h, zxe]
             · rw [if_neg (by omega)]
               exact zxs h q.1))
def T_B_serial : ZT := fun args I L R S Q => ∃ (a : Int) (ev : Int) (se : Int) (cn : Nat) (wd : Nat → Int) (ro : Nat → Nat → Int), args = [zvr 280, zvi a] ∧ (zSh S) ∧ (zRs R) ∧ (r32 a) ∧ (I 280 8 = cn) ∧ (cn ≤ 10) ∧ (I 280 24 = ev) ∧ (0 ≤ ev ∧ ev ≤ 100) ∧ (I 280 22 = se) ∧ (0 ≤ se ∧ se ≤ 60) ∧ (∀ x : Nat, x < cn → I 296 x = wd x ∧ (wd x = 0 ∨ wd x = 1)) ∧ (∀ x p : Nat, x < cn → p < 16 → I 295 (16 * x + p) = ro x p + 1 ∧ -1 ≤ ro x p ∧ ro x p ≤ 3) ∧ ∀ (v : Int) (I' : ZI), ((¬ (0 ≤ a ∧ a < cn) ∧ I' 280 0 = 1 ∧ I' 280 22 = se) ∨ ((0 ≤ a ∧ a < cn) ∧ I' 280 0 = 0 ∧ ((wd a.toNat = 0 ∧ apr (ro a.toNat) ∧ se < 60 ∧ v = se ∧ I' 280 22 = se + 1) ∨ (¬ (wd a.toNat = 0 ∧ apr (ro a.toNat) ∧ se < 60) ∧ v = -1 ∧ I' 280 22 = se)))) → (0 ≤ I' 280 24 ∧ I' 280 24 ≤ 100) → (∀ c j : Nat, ¬ c = 297 → ¬ (c = 280 ∧ j = 22) → ¬ c = 298 → ¬ c = 299 → ¬ c = 300 → ¬ c = 301 → ¬ (c = 280 ∧ j = 0) → ¬ (c = 280 ∧ j = 24) → I' c j = I c j) → Q (some (zvi (v))) I' L R S
theorem sn_B_serial : ZSnd 2 19 29 T_B_serial := ZSnd.of (zT19_29 1) (by
  rintro args I L R S Q hz ⟨a, ev, se, cn, wd, ro, rfl, hS, hR, ra, hc, hcn, hev, hev2, hse, hs2, hw, hro, hQ⟩
  refine And.intro rfl ?_
  refine And.intro (zA_280 hS) (Exists.intro _ (And.intro (zinl_ok (zT19_18 0)) (And.intro rfl ?_)))
  refine And.intro (by omega) ⟨fun h1_3 => ?_, fun h1_3 => ?_⟩
  · refine And.intro (Or.inl rfl) ?_
    refine And.intro (zRb rfl) (zbt rfl ?_)
    refine And.intro (zA_280 hS) ⟨_, (zWi (zRb rfl)), ?_⟩
    refine And.intro (zA_280 hS) (zrd (v := 1) rfl ?_)
    refine And.intro (zRb rfl) (zbf rfl ?_)
    refine hQ _ _ ?_ ?_ (fun c j h0 h1 h2 h3 h4 h5 h6 h7 => (zxcj h6 rfl))
    · first
      | exact Or.inl ⟨by omega, rfl, hse⟩
      | (refine Or.inr ⟨by omega, rfl, Or.inl ⟨?_, ?_, ?_, ?_, rfl⟩⟩
         · have := (hw a.toNat (by omega)).2
           omega
         · rcases p37hv with h | h
           · exact h.2
           · exfalso; omega
         · omega
         · omega)
      | (refine Or.inr ⟨by omega, rfl, Or.inr ⟨?_, rfl, hse⟩⟩
         rintro ⟨h1, h2, h3⟩
         first
         | omega
         | (rcases p37hv with h | h
            · omega
            · exact h.2 h2))
    · first
      | exact (show 0 ≤ ev + 1 ∧ ev + 1 ≤ 100 by omega)
      | exact (show 0 ≤ I 280 24 ∧ I 280 24 ≤ 100 by omega)
  · refine And.intro (zA_280 hS) (zrd (v := cn) hc ?_)
    refine And.intro ⟨(by omega), (by omega)⟩ ⟨fun h9_3 => ?_, fun h9_3 => ?_⟩
    · refine And.intro (Or.inl rfl) ?_
      refine And.intro (zRb rfl) (zbt rfl ?_)
      refine And.intro (zA_280 hS) ⟨_, (zWi (zRb rfl)), ?_⟩
      refine And.intro (zA_280 hS) (zrd (v := 1) rfl ?_)
      refine And.intro (zRb rfl) (zbf rfl ?_)
      refine hQ _ _ ?_ ?_ (fun c j h0 h1 h2 h3 h4 h5 h6 h7 => (zxcj h6 rfl))
      · first
        | exact Or.inl ⟨by omega, rfl, hse⟩
        | (refine Or.inr ⟨by omega, rfl, Or.inl ⟨?_, ?_, ?_, ?_, rfl⟩⟩
           · have := (hw a.toNat (by omega)).2
             omega
           · rcases p37hv with h | h
             · exact h.2
             · exfalso; omega
           · omega
           · omega)
        | (refine Or.inr ⟨by omega, rfl, Or.inr ⟨?_, rfl, hse⟩⟩
           rintro ⟨h1, h2, h3⟩
           first
           | omega
           | (rcases p37hv with h | h
              · omega
              · exact h.2 h2))
      · first
        | exact (show 0 ≤ ev + 1 ∧ ev + 1 ≤ 100 by omega)
        | exact (show 0 ≤ I 280 24 ∧ I 280 24 ≤ 100 by omega)
    · refine And.intro (Or.inr rfl) ?_
      refine And.intro (zRb rfl) (zbf rfl ?_)
      refine And.intro (zA_280 hS) ⟨_, (zWi (zRb rfl)), ?_⟩
      refine And.intro (zA_280 hS) (zrd (v := 0) rfl ?_)
      refine And.intro (zRb rfl) (zbt rfl ?_)
      refine And.intro (zA_280 hS) (zrdR (v := some 296) (zR_280_20 hR) ?_)
      refine And.intro (Or.inr (zP_296 hS (by omega) (by omega))) (fun v31 e31 r31 => ?_)
      have f31 : v31 = wd a.toNat := (e31.trans (hw _ (by omega)).1)
      refine And.intro r31 ⟨fun h32 => ?_, fun h32 => ?_⟩
      · refine hQ _ _ ?_ ?_ (fun c j h0 h1 h2 h3 h4 h5 h6 h7 => (zxcj h6 rfl))
        · first
          | exact Or.inl ⟨by omega, rfl, hse⟩
          | (refine Or.inr ⟨by omega, rfl, Or.inl ⟨?_, ?_, ?_, ?_, rfl⟩⟩
             · have := (hw a.toNat (by omega)).2
               omega
             · rcases p37hv with h | h
               · exact h.2
               · exfalso; omega
             · omega
             · omega)
          | (refine Or.inr ⟨by omega, rfl, Or.inr ⟨?_, rfl, hse⟩⟩
             rintro ⟨h1, h2, h3⟩
             first
             | omega
             | (rcases p37hv with h | h
                · omega
                · exact h.2 h2))
        · first
          | exact (show 0 ≤ ev + 1 ∧ ev + 1 ≤ 100 by omega)
          | exact (show 0 ≤ I 280 24 ∧ I 280 24 ≤ 100 by omega)
      · refine And.intro (zA_280 hS) ⟨_, sn_B_isApp.up (by decide), ?_⟩
        refine ⟨(a : Int), (ro a.toNat), rfl, hS, hR, (by omega), (fun q hq => hro a.toNat q (by omega) hq), ?_⟩
        intro v37o p37hv
        refine And.intro (by omega) ⟨fun h40 => ?_, fun h40 => ?_⟩
        · refine hQ _ _ ?_ ?_ (fun c j h0 h1 h2 h3 h4 h5 h6 h7 => (zxcj h6 rfl))
          · first
            | exact Or.inl ⟨by omega, rfl, hse⟩
            | (refine Or.inr ⟨by omega, rfl, Or.inl ⟨?_, ?_, ?_, ?_, rfl⟩⟩
               · have := (hw a.toNat (by omega)).2
                 omega
               · rcases p37hv with h | h
                 · exact h.2
                 · exfalso; omega
               · omega
               · omega)
            | (refine Or.inr ⟨by omega, rfl, Or.inr ⟨?_, rfl, hse⟩⟩
               rintro ⟨h1, h2, h3⟩
               first
               | omega
               | (rcases p37hv with h | h
                  · omega
                  · exact h.2 h2))
          · first
            | exact (show 0 ≤ ev + 1 ∧ ev + 1 ≤ 100 by omega)
            | exact (show 0 ≤ I 280 24 ∧ I 280 24 ≤ 100 by omega)
        · refine And.intro (zA_280 hS) (zrd (v := se) hse ?_)
          refine And.intro ⟨(by omega), (zRb rfl)⟩ ⟨fun h49 => ?_, fun h49 => ?_⟩
          · refine And.intro (zA_280 hS) (zrdR (v := some 297) (zR_280_23 hR) ?_)
            refine And.intro (zA_280 hS) (zrd (v := se) hse ?_)
            refine And.intro ⟨(zx0 rfl), (zP_297 hS (by omega) (by omega))⟩ ⟨_, (zWi (by omega)), ?_⟩
            refine And.intro (zA_280 hS) (zrd (v := se) hse ?_)
            refine And.intro (zA_280 hS) (Exists.intro _ (And.intro (zinl_ok (zT19_22 0)) (And.intro rfl ?_)))
            refine And.intro (zA_280 hS) (zrd (v := ev) hev ?_)
            refine And.intro ⟨(by omega), (zRb rfl)⟩ ⟨fun h6_72 => ?_, fun h6_72 => ?_⟩
            · refine And.intro (zA_280 hS) (zrdR (v := some 298) (zR_280_25 hR) ?_)
              refine And.intro (zA_280 hS) (zrd (v := ev) hev ?_)
              refine And.intro ⟨(zx0 rfl), (zP_298 hS (by omega) (by omega))⟩ ⟨_, (zWi (by omega)), ?_⟩
              refine And.intro (zA_280 hS) (zrdR (v := some 299) (zR_280_26 hR) ?_)
              refine And.intro (zA_280 hS) (zrd (v := ev) hev ?_)
              refine And.intro ⟨(zx0 rfl), (zP_299 hS (by omega) (by omega))⟩ ⟨_, (zWi (zRb rfl)), ?_⟩
              refine And.intro (zA_280 hS) (zrdR (v := some 300) (zR_280_27 hR) ?_)
              refine And.intro (zA_280 hS) (zrd (v := ev) hev ?_)
              refine And.intro ⟨(zx0 rfl), (zP_300 hS (by omega) (by omega))⟩ ⟨_, (zWi (by omega)), ?_⟩
              refine And.intro (zA_280 hS) (zrdR (v := some 301) (zR_280_28 hR) ?_)
              refine And.intro (zA_280 hS) (zrd (v := ev) hev ?_)
              refine And.intro ⟨(zx0 rfl), (zP_301 hS (by omega) (by omega))⟩ ⟨_, (zWi (zRb rfl)), ?_⟩
              refine And.intro (zA_280 hS) (zrd (v := ev) hev ?_)
              refine And.intro (zA_280 hS) ⟨_, (zWi (by omega)), ?_⟩
              refine And.intro (zA_280 hS) (zrd (v := se) hse ?_)
              refine And.intro (zA_280 hS) ⟨_, (zWi (by omega)), ?_⟩
              refine And.intro (zA_280 hS) (zrd (v := (se + 1)) rfl ?_)
              refine hQ _ _ ?_ ?_ (fun c j h0 h1 h2 h3 h4 h5 h6 h7 => (zxcj h1 (zxcj h7 (zxu h5 (zxu h4 (zxu h3 (zxu h2 (zxu h0 (zxcj h6 rfl)))))))))
              · first
                | exact Or.inl ⟨by omega, rfl, hse⟩
                | (refine Or.inr ⟨by omega, rfl, Or.inl ⟨?_, ?_, ?_, ?_, rfl⟩⟩
                   · have := (hw a.toNat (by omega)).2
                     omega
                   · rcases p37hv with h | h
                     · exact h.2
                     · exfalso; omega
                   · omega
                   · omega)
                | (refine Or.inr ⟨by omega, rfl, Or.inr ⟨?_, rfl, hse⟩⟩
                   rintro ⟨h1, h2, h3⟩
                   first
                   | omega
                   | (rcases p37hv with h | h
                      · omega
                      · exact h.2 h2))
              · first
                | exact (show 0 ≤ ev + 1 ∧ ev + 1 ≤ 100 by omega)
                | exact (show 0 ≤ I 280 24 ∧ I 280 24 ≤ 100 by omega)
            · refine And.intro (zA_280 hS) (zrd (v := se) hse ?_)
              refine And.intro (zA_280 hS) ⟨_, (zWi (by omega)), ?_⟩
              refine And.intro (zA_280 hS) (zrd (v := (se + 1)) rfl ?_)
              refine hQ _ _ ?_ ?_ (fun c j h0 h1 h2 h3 h4 h5 h6 h7 => (zxcj h1 (zxu h0 (zxcj h6 rfl))))
              · first
                | exact Or.inl ⟨by omega, rfl, hse⟩
                | (refine Or.inr ⟨by omega, rfl, Or.inl ⟨?_, ?_, ?_, ?_, rfl⟩⟩
                   · have := (hw a.toNat (by omega)).2
                     omega
                   · rcases p37hv with h | h
                     · exact h.2
                     · exfalso; omega
                   · omega
                   · omega)
                | (refine Or.inr ⟨by omega, rfl, Or.inr ⟨?_, rfl, hse⟩⟩
                   rintro ⟨h1, h2, h3⟩
                   first
                   | omega
                   | (rcases p37hv with h | h
                      · omega
                      · exact h.2 h2))
              · first
                | exact (show 0 ≤ ev + 1 ∧ ev + 1 ≤ 100 by omega)
                | exact (show 0 ≤ I 280 24 ∧ I 280 24 ≤ 100 by omega)
          · refine hQ _ _ ?_ ?_ (fun c j h0 h1 h2 h3 h4 h5 h6 h7 => (zxcj h6 rfl))
            · first
              | exact Or.inl ⟨by omega, rfl, hse⟩
              | (refine Or.inr ⟨by omega, rfl, Or.inl ⟨?_, ?_, ?_, ?_, rfl⟩⟩
                 · have := (hw a.toNat (by omega)).2
                   omega
                 · rcases p37hv with h | h
                   · exact h.2
                   · exfalso; omega
                 · omega
                 · omega)
              | (refine Or.inr ⟨by omega, rfl, Or.inr ⟨?_, rfl, hse⟩⟩
                 rintro ⟨h1, h2, h3⟩
                 first
                 | omega
                 | (rcases p37hv with h | h
                    · omega
                    · exact h.2 h2))
            · first
              | exact (show 0 ≤ ev + 1 ∧ ev + 1 ≤ 100 by omega)
              | exact (show 0 ≤ I 280 24 ∧ I 280 24 ≤ 100 by omega))
def T_B_leaf : ZT := fun args I L R S Q => ∃ (f : Int) (k : Nat) (n : Nat) (t : Nat → Int), args = [zvr 280, zvi f] ∧ (zSh S) ∧ (zRs R) ∧ (∀ j : Nat, j < 64 → I 281 j = shK j) ∧ (I 280 2 = 0) ∧ (0 ≤ f ∧ f < 88) ∧ (k ≤ 7) ∧ (I 288 f.toNat = k) ∧ (I 289 f.toNat = ckL n k) ∧ (∀ j : Nat, j < ckL n k → I 290 (64 * f.toNat + j) = t (64 * k + j)) ∧ ∀ (I' : ZI), (I' 280 2 = 0) → (∀ i : Nat, i < 32 → I' 286 i = rD t n 0 k i) → (∀ c j : Nat, ¬ c = 282 → ¬ c = 283 → ¬ c = 284 → ¬ c = 285 → ¬ c = 286 → ¬ (c = 280 ∧ j = 2) → I' c j = I c j) → Q none I' L R S
theorem sn_B_leaf : ZSnd 4 19 9 T_B_leaf := ZSnd.loops (zT19_9 3) (by
  rintro args I L R S Q hz ⟨f, k, n, t, rfl, hS, hR, hK, hz0, h0, hk, hn, hl, hb, hQ⟩
  have hL : ckL n k ≤ 64 := by unfold ckL; omega
  refine ⟨[34], fun nM tM lsM stM I1 L1 R1 S1 => match tM with
      | 34 => ∃ (i : Int), nM = ((65 - i).toNat, 0, 0) ∧ lsM = [some (zvr (280)), some (zvi (f)), some (zvi (i))] ∧ stM = [] ∧ L1 = L ∧ R1 = R ∧ S1 = S ∧ (0 ≤ i ∧ i ≤ ckL n k) ∧ (I1 280 2 = 3 + i) ∧ (∀ j : Nat, (j : Int) < 3 + i → I1 282 j = rlM t k j) ∧ (∀ c j : Nat, ¬ c = 282 → ¬ (c = 280 ∧ j = 2) → I1 c j = I c j)
      | _ => False, rfl, ?_, ⟨?_, True.intro⟩⟩
  · refine And.intro (zA_280 hS) (Exists.intro _ (And.intro (zinl_ok (zT19_25 2)) (And.intro rfl ?_)))
    refine And.intro (zA_280 hS) (zrdR (v := some 282) (zR_280_3 hR) ?_)
    refine And.intro (zA_280 hS) (zrd (v := 0) hz0 ?_)
    refine And.intro ⟨(zx0 rfl), (zP_282 hS (by omega) (by omega))⟩ ⟨_, (zWi (zRb rfl)), ?_⟩
    refine And.intro (zA_280 hS) (zrd (v := 0) hz0 ?_)
    refine And.intro (zA_280 hS) ⟨_, (zWi (zRb rfl)), ?_⟩
    refine And.intro (zA_280 hS) (zrdR (v := some 288) (zR_280_10 hR) ?_)
    refine And.intro (zP_288 hS (by omega) (by omega)) (fun v11 e11 r11 => ?_)
    have f11 : v11 = k := (e11.trans hn)
    have b14 : (zshr v11 8) = v11 / 256 := zshr_d _ r11 8 (by decide)
    refine And.intro (zA_280 hS) (Exists.intro _ (And.intro (zinl_ok (zT19_25 2)) (And.intro rfl ?_)))
    refine And.intro (zA_280 hS) (zrdR (v := some 282) (zR_280_3 hR) ?_)
    refine And.intro (zA_280 hS) (zrd (v := (0 + 1)) rfl ?_)
    refine And.intro ⟨(zx0 rfl), (zP_282 hS (by omega) (by omega))⟩ ⟨_, (zWi zr_shr), ?_⟩
    refine And.intro (zA_280 hS) (zrd (v := (0 + 1)) rfl ?_)
    refine And.intro (zA_280 hS) ⟨_, (zWi (zRb rfl)), ?_⟩
    refine And.intro (zA_280 hS) (zrdR (v := some 288) (zR_280_10 hR) ?_)
    refine And.intro (zP_288 hS (by omega) (by omega)) (fun v24 e24 r24 => ?_)
    have f24 : v24 = k := (e24.trans hn)
    have b28 : (zand v24 255) = v24 % 256 := zand255 _
    refine And.intro (zA_280 hS) (Exists.intro _ (And.intro (zinl_ok (zT19_25 2)) (And.intro rfl ?_)))
    refine And.intro (zA_280 hS) (zrdR (v := some 282) (zR_280_3 hR) ?_)
    refine And.intro (zA_280 hS) (zrd (v := ((0 + 1) + 1)) rfl ?_)
    refine And.intro ⟨(zx0 rfl), (zP_282 hS (by omega) (by omega))⟩ ⟨_, (zWi zr_and), ?_⟩
    refine And.intro (zA_280 hS) (zrd (v := ((0 + 1) + 1)) rfl ?_)
    refine And.intro (zA_280 hS) ⟨_, (zWi (zRb rfl)), ?_⟩
    refine ⟨((65 - (0 : Int)).toNat, 0, 0), [some (zvr (280)), some (zvi (f)), some (zvi ((0 : Int)))], ⟨rfl, rfl, rfl, rfl⟩, 0, rfl, rfl, rfl, rfl, rfl, rfl, (by omega), (Eq.trans (b := ((((0 + 1) + 1) + 1) : Int)) rfl (by omega)), ?_, (fun c j h0 h1 => (zxcj h1 (zxu h0 (zxcj h1 (zxu h0 (zxcj h1 (zxu h0 rfl)))))))⟩
    · intro j hj
      have z9 : j = 0 ∨ j = 1 ∨ j = 2 := by omega
      rcases z9 with rfl | rfl | rfl
      · exact (show (0 : Int) = rlM t k 0 from rfl)
      · exact (show zshr v11 8 = rlM t k 1 by rw [b14]; show _ = ((k / 256 : Nat) : Int); omega)
      · exact (show zand v24 255 = rlM t k 2 by rw [b28]; show _ = ((k % 256 : Nat) : Int); omega)
  · rintro nM lsM stM I1 L1 R1 S1 hz1 ⟨i, rfl, rfl, rfl, rfl, rfl, rfl, hi, hp, hm1, fr⟩
    refine And.intro (zA_280 hS) (zrdR (v := some 289) (zR_280_11 hR) ?_)
    refine And.intro (zP_289 hS (by omega) (by omega)) (fun v40 e40 r40 => ?_)
    have f40 : v40 = ckL n k := (e40.trans ((fr 289 _ (by omega) (by omega)).trans hl))
    refine And.intro ⟨(by omega), r40⟩ ⟨fun h41 => ?_, fun h41 => ?_⟩
    · refine And.intro (zA_280 hS) ⟨_, sn_B_dig.up (by decide), ?_⟩
      refine ⟨_, (rlM t k), rfl, hS, hR, (fun j hj => (fr 281 j (by omega) (by omega)).trans (hK j hj)), hp, (by omega), (fun j hj => hm1 j (by omega)), ?_⟩
      intro I66o p66hz p66bhd p66bbfr
      refine hQ _ p66hz ?_ (fun c j h0 h1 h2 h3 h4 h5 => ((p66bbfr c j (by omega) (by omega) (by omega) (by omega) (by omega) (by omega)).trans ((fr c j (by omega) (by omega)).trans rfl)))
      · intro j hj
        refine (p66bhd j hj).trans ?_
        show _ = shD (rlM t k) (rlN n k) j
        rw [show (3 + i).toNat = rlN n k by unfold rlN; unfold ckL at *; omega]
    · refine And.intro (zA_280 hS) (zrdR (v := some 290) (zR_280_12 hR) ?_)
      refine And.intro (zP_290 hS (by omega) (by omega)) (fun v55 e55 r55 => ?_)
      refine And.intro (zA_280 hS) (Exists.intro _ (And.intro (zinl_ok (zT19_25 2)) (And.intro rfl ?_)))
      refine And.intro (zA_280 hS) (zrdR (v := some 282) (zR_280_3 hR) ?_)
      refine And.intro (zA_280 hS) (zrd (v := (3 + i)) hp ?_)
      refine And.intro ⟨(zx0 rfl), (zP_282 hS (by omega) (by omega))⟩ ⟨_, (zWi r55), ?_⟩
      refine And.intro (zA_280 hS) (zrd (v := (3 + i)) hp ?_)
      refine And.intro (zA_280 hS) ⟨_, (zWi (by omega)), ?_⟩
      refine ⟨((65 - (i + 1)).toNat, 0, 0), zlt6 (by omega), [some (zvr (280)), some (zvi (f)), some (zvi ((i + 1)))], ⟨rfl, rfl, rfl, rfl⟩, (i + 1), rfl, rfl, rfl, rfl, rfl, rfl, (by omega), (Eq.trans (b := (((3 + i) + 1) : Int)) rfl (by omega)), ?_, (fun c j h0 h1 => (zxcj h1 (zxu h0 ((fr c j (by omega) (by omega)).trans rfl))))⟩
      · intro j hj
        refine zxu (by decide) ?_
        by_cases h : (j : Int) = 3 + i
        · rw [show j = (3 + i).toNat by omega]
          refine zxe.trans ?_
          rw [e55, fr _ _ (by omega) (by omega)]
          unfold rlM
          rw [if_neg (by omega), if_neg (by omega), if_neg (by omega), show 64 * k + ((3 + i).toNat - 3) = 64 * k + i.toNat by omega, ← hb i.toNat (by omega)]
          congr 1 <;> omega
        · exact zxs (by omega) (hm1 j (by omega)))
