/-! zp -/
def T_Y_chk : ZT := fun args I L R S Q => ∃ (a : Int) (k : Int) (q : Int) (m : Int) (cn : Nat) (t : Nat → Nat → Int) (n : Nat → Nat), args = [zvr 165, zvi a, zvi k, zvi q, zvi m] ∧ (zSh S) ∧ (zRs R) ∧ (r32 a ∧ r32 k ∧ r32 q ∧ r32 m) ∧ (zRB cn t n I) ∧ (zRC cn t n I) ∧ ∀ (v : Int) (I' : ZI), ((¬ (0 ≤ a ∧ a < cn ∧ 0 ≤ k ∧ k < rW (n a.toNat) 0 ∧ -1 ≤ q ∧ q < ckC (n a.toNat) k.toNat) ∧ v = -1) ∨ ((0 ≤ a ∧ a < cn ∧ 0 ≤ k ∧ k < rW (n a.toNat) 0 ∧ -1 ≤ q ∧ q < ckC (n a.toNat) k.toNat) ∧ ((v = 1 ∧ ckH cn t n (ckP (ckB (t a.toNat) (n a.toNat) a.toNat k.toNat) q m) (ckC (n a.toNat) k.toNat)) ∨ (v = 0 ∧ ¬ ckH cn t n (ckP (ckB (t a.toNat) (n a.toNat) a.toNat k.toNat) q m) (ckC (n a.toNat) k.toNat))))) → (I' 280 2 = 0) → (∀ c j : Nat, ¬ c = 282 → ¬ c = 283 → ¬ c = 284 → ¬ c = 285 → ¬ c = 286 → ¬ c = 293 → ¬ (c = 280 ∧ j = 2) → ¬ (c = 280 ∧ j = 15) → ¬ (c = 280 ∧ j = 0) → ¬ (c = 280 ∧ j = 29) → ¬ (c = 280 ∧ j = 30) → ¬ (c = 280 ∧ j = 31) → ¬ (c = 280 ∧ j = 17) → ¬ c = 294 → I' c j = I c j) → Q (some (zvi (v))) I' L R S
theorem sn_Y_chk : ZSnd 6 21 5 T_Y_chk := ZSnd.loops (zT21_5 5) (by
  rintro args I L R S Q hz ⟨a, k, q, m, cn, t, n, rfl, hS, hR, ra, hRB, hRC, hQ⟩
  have hc := hRB.1
  have hcn := hRB.2.1
  have hz20 := hRB.2.2.1
  refine ⟨[118, 167], fun nM tM lsM stM I1 L1 R1 S1 => match tM with
      | 118 => ∃ (i : Nat), nM = (3, (99 - i), 0) ∧ lsM = [some (zvr (165)), some (zvi (a)), some (zvi (k)), some (zvi (q)), some (zvi (m)), some (zvi (8 * a + k)), none, some (zvi (i))] ∧ stM = [] ∧ L1 = L ∧ R1 = R ∧ S1 = S ∧ (0 ≤ a ∧ a < cn ∧ 0 ≤ k ∧ k < rW (n a.toNat) 0 ∧ k ≤ 7 ∧ 1 ≤ n a.toNat ∧ n a.toNat ≤ 512) ∧ (i ≤ ckL (n a.toNat) k.toNat) ∧ (i ≤ 64) ∧ (I1 280 17 = 4 + i) ∧ (∀ j : Nat, j < 4 + i → I1 294 j = ckB (t a.toNat) (n a.toNat) a.toNat k.toNat j) ∧ (I1 280 2 = 0) ∧ (∀ c j : Nat, ¬ c = 282 → ¬ c = 283 → ¬ c = 284 → ¬ c = 285 → ¬ c = 286 → ¬ c = 293 → ¬ (c = 280 ∧ j = 2) → ¬ (c = 280 ∧ j = 15) → ¬ (c = 280 ∧ j = 0) → ¬ (c = 280 ∧ j = 29) → ¬ (c = 280 ∧ j = 30) → ¬ (c = 280 ∧ j = 31) → ¬ (c = 280 ∧ j = 17) → ¬ c = 294 → I1 c j = I c j)
      | 167 => ∃ (z : Nat), nM = (2, (200 - z), 0) ∧ lsM = [some (zvr (165)), some (zvi (a)), some (zvi (k)), some (zvi (q)), some (zvi (m)), none, none, some (zvi (z))] ∧ stM = [] ∧ L1 = L ∧ R1 = R ∧ S1 = S ∧ (0 ≤ a ∧ a < cn ∧ 0 ≤ k ∧ k < rW (n a.toNat) 0 ∧ k ≤ 7 ∧ 1 ≤ n a.toNat ∧ n a.toNat ≤ 512) ∧ (z ≤ 1 + 33 * pfN (n a.toNat) k.toNat (rT (n a.toNat))) ∧ (z ≤ 100) ∧ (I1 280 17 = 4 + ckL (n a.toNat) k.toNat + z) ∧ (∀ j : Nat, j < 4 + ckL (n a.toNat) k.toNat + z → I1 294 j = ckB (t a.toNat) (n a.toNat) a.toNat k.toNat j) ∧ (I1 280 2 = 0) ∧ (∀ c j : Nat, ¬ c = 282 → ¬ c = 283 → ¬ c = 284 → ¬ c = 285 → ¬ c = 286 → ¬ c = 293 → ¬ (c = 280 ∧ j = 2) → ¬ (c = 280 ∧ j = 15) → ¬ (c = 280 ∧ j = 0) → ¬ (c = 280 ∧ j = 29) → ¬ (c = 280 ∧ j = 30) → ¬ (c = 280 ∧ j = 31) → ¬ (c = 280 ∧ j = 17) → ¬ c = 294 → I1 c j = I c j)
      | _ => False, rfl, ?_, ⟨?_, ?_, True.intro⟩⟩
  · refine And.intro (zA_165 hS) (zrdR (v := some 280) (zR_165_50 hR) ?_)
    refine And.intro (zA_280 hS) (Exists.intro _ (And.intro (zinl_ok (zT19_17 4)) (And.intro rfl ?_)))
    refine And.intro (zA_280 hS) (Exists.intro _ (And.intro (zinl_ok (zT19_18 3)) (And.intro rfl ?_)))
    refine And.intro (by omega) ⟨fun h1_6_2 => ?_, fun h1_6_2 => ?_⟩
    · refine And.intro (Or.inl rfl) ?_
      refine And.intro (zRb rfl) (zbt rfl ?_)
      refine And.intro (Or.inl rfl) ?_
      refine And.intro (zRb rfl) (zbf rfl ?_)
      refine hQ _ _ ?_ (by first | exact hz20 | (repeat (first | exact p175bhz2 | refine zxu (by decide) ?_ | exact p247bhz2))) (fun c j h0 h1 h2 h3 h4 h5 h6 h7 h8 h9 h10 h11 h12 h13 => rfl)
      · first
        | exact Or.inl ⟨fun q => by omega, rfl⟩
        | (rcases p247hv with q1 | q1
           · exact Or.inr ⟨⟨by omega, by omega, by omega, by omega, by omega, by omega⟩, Or.inl q1⟩
           · exact Or.inr ⟨⟨by omega, by omega, by omega, by omega, by omega, by omega⟩, Or.inr q1⟩)
    · refine And.intro (zA_280 hS) (zrd (v := cn) hc ?_)
      refine And.intro ⟨(by omega), (by omega)⟩ ⟨fun h9_6_2 => ?_, fun h9_6_2 => ?_⟩
      · refine And.intro (Or.inl rfl) ?_
        refine And.intro (zRb rfl) (zbt rfl ?_)
        refine And.intro (Or.inl rfl) ?_
        refine And.intro (zRb rfl) (zbf rfl ?_)
        refine hQ _ _ ?_ (by first | exact hz20 | (repeat (first | exact p175bhz2 | refine zxu (by decide) ?_ | exact p247bhz2))) (fun c j h0 h1 h2 h3 h4 h5 h6 h7 h8 h9 h10 h11 h12 h13 => rfl)
        · first
          | exact Or.inl ⟨fun q => by omega, rfl⟩
          | (rcases p247hv with q1 | q1
             · exact Or.inr ⟨⟨by omega, by omega, by omega, by omega, by omega, by omega⟩, Or.inl q1⟩
             · exact Or.inr ⟨⟨by omega, by omega, by omega, by omega, by omega, by omega⟩, Or.inr q1⟩)
      · refine And.intro (Or.inr rfl) ?_
        refine And.intro (zRb rfl) (zbf rfl ?_)
        refine And.intro (by omega) ⟨fun h9_6 => ?_, fun h9_6 => ?_⟩
        · refine And.intro (Or.inl rfl) ?_
          refine And.intro (zRb rfl) (zbf rfl ?_)
          refine hQ _ _ ?_ (by first | exact hz20 | (repeat (first | exact p175bhz2 | refine zxu (by decide) ?_ | exact p247bhz2))) (fun c j h0 h1 h2 h3 h4 h5 h6 h7 h8 h9 h10 h11 h12 h13 => rfl)
          · first
            | exact Or.inl ⟨fun q => by omega, rfl⟩
            | (rcases p247hv with q1 | q1
               · exact Or.inr ⟨⟨by omega, by omega, by omega, by omega, by omega, by omega⟩, Or.inl q1⟩
               · exact Or.inr ⟨⟨by omega, by omega, by omega, by omega, by omega, by omega⟩, Or.inr q1⟩)
        · refine And.intro (zA_280 hS) (zrdR (v := some 287) (zR_280_9 hR) ?_)
          refine And.intro (zP_287 hS (by omega) (by omega)) (fun v18_6 e18_6 r18_6 => ?_)
          have f18_6 : v18_6 = rW (n a.toNat) 0 := (by exact e18_6.trans (hRB.2.2.2.2 a.toNat (by omega)).1.2.2)
          have f18_6b : v18_6 ≤ 8 ∧ 0 ≤ v18_6 := (by have z9 := (hRB.2.2.2.2 a.toNat (by omega)).1; have z8 : rW (n a.toNat) 0 = (n a.toNat + 63) / 64 := rfl; omega)
          refine And.intro ⟨(by omega), r18_6⟩ ⟨fun h19_6 => ?_, fun h19_6 => ?_⟩
          · refine And.intro (Or.inl rfl) ?_
            refine And.intro (zRb rfl) (zbf rfl ?_)
            refine hQ _ _ ?_ (by first | exact hz20 | (repeat (first | exact p175bhz2 | refine zxu (by decide) ?_ | exact p247bhz2))) (fun c j h0 h1 h2 h3 h4 h5 h6 h7 h8 h9 h10 h11 h12 h13 => rfl)
            · first
              | exact Or.inl ⟨fun q => by omega, rfl⟩
              | (rcases p247hv with q1 | q1
                 · exact Or.inr ⟨⟨by omega, by omega, by omega, by omega, by omega, by omega⟩, Or.inl q1⟩
                 · exact Or.inr ⟨⟨by omega, by omega, by omega, by omega, by omega, by omega⟩, Or.inr q1⟩)
          · refine And.intro (Or.inr rfl) ?_
            refine And.intro (zRb rfl) (zbt rfl ?_)
            refine And.intro (zA_165 hS) (zrdR (v := some 280) (zR_165_50 hR) ?_)
            refine And.intro (zA_280 hS) (Exists.intro _ (And.intro (zinl_ok (zT19_6 4)) (And.intro rfl ?_)))
            refine And.intro (zA_280 hS) ⟨_, (zWi (zRb rfl)), ?_⟩
            refine And.intro (zA_280 hS) ⟨_, (zWi (zRb rfl)), ?_⟩
            refine And.intro (zA_165 hS) (zrdR (v := some 280) (zR_165_50 hR) ?_)
            refine And.intro (zA_280 hS) (Exists.intro _ (And.intro (zinl_ok (zT19_4 4)) (And.intro rfl ?_)))
            refine And.intro (zA_280 hS) ⟨_, (zWi (zRb rfl)), ?_⟩
            refine Exists.intro _ (And.intro (zinl_ok (zT19_16 3)) (And.intro rfl ?_))
            refine And.intro (by omega) ⟨(fun h1_34_6 => False.elim (by omega)), fun h1_34_6 => ?_⟩
            refine And.intro ⟨(by omega), (zRb rfl)⟩ ⟨(fun h8_34_6 => False.elim (by omega)), fun h8_34_6 => ?_⟩
            refine And.intro (Or.inr rfl) ?_
            refine And.intro (zRb rfl) (zbf rfl ?_)
            refine And.intro (zA_280 hS) (zrd (v := 0) rfl ?_)
            refine And.intro ⟨(zRb rfl), (zRb rfl)⟩ (zbt rfl ?_)
            refine And.intro (zA_280 hS) (zrdR (v := some 294) (zR_280_18 hR) ?_)
            refine And.intro (zA_280 hS) (zrd (v := 0) rfl ?_)
            refine And.intro ⟨(zx0 rfl), (zP_294 hS (by omega) (by omega))⟩ ⟨_, (zWi (by omega)), ?_⟩
            refine And.intro (zA_280 hS) (zrd (v := 0) rfl ?_)
            refine And.intro (zA_280 hS) ⟨_, (zWi (zRb rfl)), ?_⟩
            refine And.intro (Or.inr rfl) ?_
            refine And.intro (zRb rfl) (zbf rfl ?_)
            refine And.intro (zA_165 hS) (zrdR (v := some 280) (zR_165_50 hR) ?_)
            refine And.intro (zA_165 hS) (zrdR (v := some 280) (zR_165_50 hR) ?_)
            refine And.intro (zA_280 hS) (zrdR (v := some 288) (zR_280_10 hR) ?_)
            refine And.intro (zP_288 hS (by omega) (by omega)) (fun v53 e53 r53 => ?_)
            have f53 : v53 = k.toNat := (e53.trans (((zxu (by omega) (zxu (by omega) (zxu (by omega) (zxu (by omega) (zxu (by omega) rfl)))))).trans ((congrArg (I 288) (by omega)).trans ((hRC a.toNat (by omega)) k.toNat (by omega)).1)))
            refine And.intro ⟨r53, (zRb rfl), (by decide)⟩ (fun q57 e57 e57' => ?_)
            have f57 : 0 ≤ q57 ∧ q57 ≤ 255 := (by omega)
            refine And.intro (zA_280 hS) (Exists.intro _ (And.intro (zinl_ok (zT19_4 4)) (And.intro rfl ?_)))
            refine And.intro (zA_280 hS) ⟨_, (zWi (zRb rfl)), ?_⟩
            refine Exists.intro _ (And.intro (zinl_ok (zT19_16 3)) (And.intro rfl ?_))
            refine And.intro (by omega) ⟨(fun h1_58_6 => False.elim (by omega)), fun h1_58_6 => ?_⟩
            refine And.intro ⟨(by omega), (zRb rfl)⟩ ⟨(fun h8_58_6 => False.elim (by omega)), fun h8_58_6 => ?_⟩
            refine And.intro (Or.inr rfl) ?_
            refine And.intro (zRb rfl) (zbf rfl ?_)
            refine And.intro (zA_280 hS) (zrd (v := (0 + 1)) rfl ?_)
            refine And.intro ⟨(zRb rfl), (zRb rfl)⟩ (zbt rfl ?_)
            refine And.intro (zA_280 hS) (zrdR (v := some 294) (zR_280_18 hR) ?_)
            refine And.intro (zA_280 hS) (zrd (v := (0 + 1)) rfl ?_)
            refine And.intro ⟨(zx0 rfl), (zP_294 hS (by omega) (by omega))⟩ ⟨_, (zWi (by omega)), ?_⟩
            refine And.intro (zA_280 hS) (zrd (v := (0 + 1)) rfl ?_)
            refine And.intro (zA_280 hS) ⟨_, (zWi (zRb rfl)), ?_⟩
            refine And.intro (Or.inr rfl) ?_
            refine And.intro (zRb rfl) (zbf rfl ?_)
            refine And.intro (zA_165 hS) (zrdR (v := some 280) (zR_165_50 hR) ?_)
            refine And.intro (zA_165 hS) (zrdR (v := some 280) (zR_165_50 hR) ?_)
            refine And.intro (zA_280 hS) (zrdR (v := some 288) (zR_280_10 hR) ?_)
            refine And.intro (zP_288 hS (by omega) (by omega)) (fun v77 e77 r77 => ?_)
            have f77 : v77 = k.toNat := (e77.trans (((zxu (by omega) (zxu (by omega) (zxu (by omega) (zxu (by omega) (zxu (by omega) (zxu (by omega) (zxu (by omega) (zxu (by omega) rfl))))))))).trans ((congrArg (I 288) (by omega)).trans ((hRC a.toNat (by omega)) k.toNat (by omega)).1)))
            refine And.intro ⟨r77, (zRb rfl), (by decide)⟩ (fun q81 e81 e81' => ?_)
            have f81 : 0 ≤ q81 ∧ q81 ≤ 255 := (by omega)
            refine And.intro (zA_280 hS) (Exists.intro _ (And.intro (zinl_ok (zT19_4 4)) (And.intro rfl ?_)))
            refine And.intro (zA_280 hS) ⟨_, (zWi (zRb rfl)), ?_⟩
            refine Exists.intro _ (And.intro (zinl_ok (zT19_16 3)) (And.intro rfl ?_))
            refine And.intro (by omega) ⟨(fun h1_82_6 => False.elim (by omega)), fun h1_82_6 => ?_⟩
            refine And.intro ⟨(by omega), (zRb rfl)⟩ ⟨(fun h8_82_6 => False.elim (by omega)), fun h8_82_6 => ?_⟩
            refine And.intro (Or.inr rfl) ?_
            refine And.intro (zRb rfl) (zbf rfl ?_)
            refine And.intro (zA_280 hS) (zrd (v := ((0 + 1) + 1)) rfl ?_)
            refine And.intro ⟨(zRb rfl), (zRb rfl)⟩ (zbt rfl ?_)
            refine And.intro (zA_280 hS) (zrdR (v := some 294) (zR_280_18 hR) ?_)
            refine And.intro (zA_280 hS) (zrd (v := ((0 + 1) + 1)) rfl ?_)
            refine And.intro ⟨(zx0 rfl), (zP_294 hS (by omega) (by omega))⟩ ⟨_, (zWi (by omega)), ?_⟩
            refine And.intro (zA_280 hS) (zrd (v := ((0 + 1) + 1)) rfl ?_)
            refine And.intro (zA_280 hS) ⟨_, (zWi (zRb rfl)), ?_⟩
            refine And.intro (Or.inr rfl) ?_
            refine And.intro (zRb rfl) (zbf rfl ?_)
            refine And.intro (zA_165 hS) (zrdR (v := some 280) (zR_165_50 hR) ?_)
            refine And.intro (zA_165 hS) (zrdR (v := some 280) (zR_165_50 hR) ?_)
            refine And.intro (zA_280 hS) (zrdR (v := some 289) (zR_280_11 hR) ?_)
            refine And.intro (zP_289 hS (by omega) (by omega)) (fun v101 e101 r101 => ?_)
            have f101 : v101 = ckL (n a.toNat) k.toNat := (e101.trans (((zxu (by omega) (zxu (by omega) (zxu (by omega) (zxu (by omega) (zxu (by omega) (zxu (by omega) (zxu (by omega) (zxu (by omega) (zxu (by omega) (zxu (by omega) (zxu (by omega) rfl)))))))))))).trans ((congrArg (I 289) (by omega)).trans ((hRC a.toNat (by omega)) k.toNat (by omega)).2.1)))
            have f101b : 0 ≤ v101 ∧ v101 ≤ 64 := (by have z9 : ckL (n a.toNat) k.toNat = min 64 (n a.toNat - 64 * k.toNat) := rfl; omega)
            refine And.intro (zA_280 hS) (Exists.intro _ (And.intro (zinl_ok (zT19_4 4)) (And.intro rfl ?_)))
            refine And.intro (zA_280 hS) ⟨_, (zWi (zRb rfl)), ?_⟩
            refine Exists.intro _ (And.intro (zinl_ok (zT19_16 3)) (And.intro rfl ?_))
            refine And.intro r101 ⟨(fun h1_102_6 => False.elim (by omega)), fun h1_102_6 => ?_⟩
            refine And.intro ⟨r101, (zRb rfl)⟩ ⟨(fun h8_102_6 => False.elim (by omega)), fun h8_102_6 => ?_⟩
            refine And.intro (Or.inr rfl) ?_
            refine And.intro (zRb rfl) (zbf rfl ?_)
            refine And.intro (zA_280 hS) (zrd (v := (((0 + 1) + 1) + 1)) rfl ?_)
            refine And.intro ⟨(zRb rfl), (zRb rfl)⟩ (zbt rfl ?_)
            refine And.intro (zA_280 hS) (zrdR (v := some 294) (zR_280_18 hR) ?_)
            refine And.intro (zA_280 hS) (zrd (v := (((0 + 1) + 1) + 1)) rfl ?_)
            refine And.intro ⟨(zx0 rfl), (zP_294 hS (by omega) (by omega))⟩ ⟨_, (zWi r101), ?_⟩
            refine And.intro (zA_280 hS) (zrd (v := (((0 + 1) + 1) + 1)) rfl ?_)
            refine And.intro (zA_280 hS) ⟨_, (zWi (zRb rfl)), ?_⟩
            refine And.intro (Or.inr rfl) ?_
            refine And.intro (zRb rfl) (zbf rfl ?_)
            refine ⟨(3, (99 - (0 : Nat)), 0), [some (zvr (165)), some (zvi (a)), some (zvi (k)), some (zvi (q)), some (zvi (m)), some (zvi (8 * a + k)), none, some (zvi ((0 : Nat)))], ⟨rfl, rfl, rfl, rfl, rfl, (congrArg (fun z => some (zvi z)) (by omega)), rfl, rfl⟩, 0, rfl, rfl, rfl, rfl, rfl, rfl, ⟨by omega, by omega, by omega, by omega, by omega, (hRB.2.2.2.2 a.toNat (by omega)).1.1, (hRB.2.2.2.2 a.toNat (by omega)).1.2.1⟩, (by omega), (by omega), (by repeat (first | exact (zxe' (by omega)).trans (by omega) | refine zxu (by decide) ?_ | refine zxs (by decide) ?_)), ?_, (by repeat (first | exact hz20 | refine zxu (by decide) ?_ | refine zxs (by decide) ?_)), (fun c j h0 h1 h2 h3 h4 h5 h6 h7 h8 h9 h10 h11 h12 h13 => (zxcj h12 (zxu h13 (zxcj h8 (zxcj h12 (zxu h13 (zxcj h8 (zxcj h12 (zxu h13 (zxcj h8 (zxcj h12 (zxu h13 (zxcj h8 (zxcj h12 (zxcj h8 rfl)))))))))))))))⟩
            · intro j hj
              have z9 : j = 0 ∨ j = 1 ∨ j = 2 ∨ j = 3 := by omega
              rcases z9 with rfl | rfl | rfl | rfl
              · refine Eq.trans (b := a) ?_ (show a = ((a.toNat : Nat) : Int) by omega)
                repeat (first | exact zxe | refine zxu (by decide) ?_ | refine zxs (by decide) ?_)
              · refine Eq.trans (b := q57) ?_ (show q57 = ((k.toNat / 256 : Nat) : Int) by omega)
                repeat (first | exact zxe | refine zxu (by decide) ?_ | refine zxs (by decide) ?_)
              · refine Eq.trans (b := q81) ?_ (show q81 = ((k.toNat % 256 : Nat) : Int) by omega)
                repeat (first | exact zxe | refine zxu (by decide) ?_ | refine zxs (by decide) ?_)
              · refine Eq.trans (b := v101) ?_ f101
                repeat (first | exact zxe | refine zxu (by decide) ?_ | refine zxs (by decide) ?_)
  · rintro nM lsM stM I1 L1 R1 S1 hz1 ⟨i, rfl, rfl, rfl, rfl, rfl, rfl, ha, hi, hi2, hs17, hb, hz21, fr⟩
    have hRB1 : zRB cn t n I1 := zRB_fr hRB hz21 (fun c j h => fr c j (by omega) (by omega) (by omega) (by omega) (by omega) (by omega) (by omega) (by omega) (by omega) (by omega) (by omega) (by omega) (by omega) (by omega) )
    have hq := (hRC a.toNat (by omega)) k.toNat (by omega)
    have hrr := (hRB.2.2.2.2 a.toNat (by omega))
    have hpn : pfN (n a.toNat) k.toNat (rT (n a.toNat)) ≤ 3 := Nat.le_trans (pfN_le _ _ _) (rT_le _)
    have hl9 : ckL (n a.toNat) k.toNat = min 64 (n a.toNat - 64 * k.toNat) := rfl
    have hw0 : rW (n a.toNat) 0 = (n a.toNat + 63) / 64 := rfl
    have hc9 : ckC (n a.toNat) k.toNat = 5 + ckL (n a.toNat) k.toNat + 33 * pfN (n a.toNat) k.toNat (rT (n a.toNat)) := rfl
    have hby : ∀ j : Nat, 0 ≤ ckB (t a.toNat) (n a.toNat) a.toNat k.toNat j ∧ ckB (t a.toNat) (n a.toNat) a.toNat k.toNat j ≤ 255 := fun j => ckB_b (by omega) (by omega) (fun x hx => hrr.2.1 x hx) j
    refine And.intro (zA_165 hS) (zrdR (v := some 280) (zR_165_50 hR) ?_)
    refine And.intro (zA_280 hS) (zrdR (v := some 289) (zR_280_11 hR) ?_)
    refine And.intro (zP_289 hS (by omega) (by omega)) (fun v129 e129 r129 => ?_)
    have f129 : v129 = ckL (n a.toNat) k.toNat := (e129.trans (((fr 289 _ (by omega) (by omega) (by omega) (by omega) (by omega) (by omega) (by omega) (by omega) (by omega) (by omega) (by omega) (by omega) (by omega) (by omega) )).trans ((congrArg (I 289) (by omega)).trans hq.2.1)))
    refine And.intro ⟨(by omega), r129⟩ ⟨fun h130 => ?_, fun h130 => ?_⟩
    · refine ⟨(2, (200 - (0 : Nat)), 0), zlt6 (by omega), [some (zvr (165)), some (zvi (a)), some (zvi (k)), some (zvi (q)), some (zvi (m)), none, none, some (zvi ((0 : Nat)))], ⟨rfl, rfl, rfl, rfl, rfl, rfl, rfl⟩, 0, rfl, rfl, rfl, rfl, rfl, rfl, (by omega), (by omega), (by omega), (by omega), (fun j hj => hb j (by omega)), hz21, (fun c j h0 h1 h2 h3 h4 h5 h6 h7 h8 h9 h10 h11 h12 h13 => ((fr c j h0 h1 h2 h3 h4 h5 h6 h7 h8 h9 h10 h11 h12 h13).trans rfl))⟩
    · refine And.intro (zA_165 hS) (zrdR (v := some 280) (zR_165_50 hR) ?_)
      refine And.intro (zA_165 hS) (zrdR (v := some 280) (zR_165_50 hR) ?_)
      refine And.intro (zA_280 hS) (zrdR (v := some 290) (zR_280_12 hR) ?_)
      refine And.intro (zP_290 hS (by omega) (by omega)) (fun v152 e152 r152 => ?_)
      have f152 : v152 = t a.toNat (64 * k.toNat + i) := (e152.trans (((fr 290 _ (by omega) (by omega) (by omega) (by omega) (by omega) (by omega) (by omega) (by omega) (by omega) (by omega) (by omega) (by omega) (by omega) (by omega) )).trans ((congrArg (I 290) (by omega)).trans (hq.2.2 i (by omega)))))
      have f152b : 0 ≤ v152 ∧ v152 ≤ 255 := (by have z9 := hrr.2.1 (64 * k.toNat + i) (by omega); omega)
      refine And.intro (zA_280 hS) (Exists.intro _ (And.intro (zinl_ok (zT19_4 4)) (And.intro rfl ?_)))
      refine And.intro (zA_280 hS) ⟨_, (zWi (zRb rfl)), ?_⟩
      refine Exists.intro _ (And.intro (zinl_ok (zT19_16 3)) (And.intro rfl ?_))
      refine And.intro r152 ⟨(fun h1_153_6 => False.elim (by omega)), fun h1_153_6 => ?_⟩
      refine And.intro ⟨r152, (zRb rfl)⟩ ⟨(fun h8_153_6 => False.elim (by omega)), fun h8_153_6 => ?_⟩
      refine And.intro (Or.inr rfl) ?_
      refine And.intro (zRb rfl) (zbf rfl ?_)
      refine And.intro (zA_280 hS) (zrd (v := (4 + i)) hs17 ?_)
      refine And.intro ⟨(by omega), (zRb rfl)⟩ ⟨fun h19_153 => ?_, (fun h19_153 => False.elim (by omega))⟩
      refine And.intro (zA_280 hS) (zrdR (v := some 294) (zR_280_18 hR) ?_)
      refine And.intro (zA_280 hS) (zrd (v := (4 + i)) hs17 ?_)
      refine And.intro ⟨(zx0 rfl), (zP_294 hS (by omega) (by omega))⟩ ⟨_, (zWi r152), ?_⟩
      refine And.intro (zA_280 hS) (zrd (v := (4 + i)) hs17 ?_)
      refine And.intro (zA_280 hS) ⟨_, (zWi (by omega)), ?_⟩
      refine And.intro (Or.inr rfl) ?_
      refine ⟨(3, (99 - (i + 1)), 0), zlt6 (by omega), [some (zvr (165)), some (zvi (a)), some (zvi (k)), some (zvi (q)), some (zvi (m)), some (zvi (8 * a + k)), none, some (zvi ((i + 1)))], ⟨rfl, rfl, rfl, rfl, rfl, rfl, rfl, rfl⟩, (i + 1), rfl, rfl, rfl, rfl, rfl, rfl, (by omega), (by omega), (by omega), (Eq.trans (b := (((4 + i) + 1) : Int)) rfl (by omega)), ?_, hz21, (fun c j h0 h1 h2 h3 h4 h5 h6 h7 h8 h9 h10 h11 h12 h13 => (zxcj h12 (zxu h13 (zxcj h8 ((fr c j h0 h1 h2 h3 h4 h5 h6 h7 h8 h9 h10 h11 h12 h13).trans rfl)))))⟩
      · intro j hj
        by_cases h : j = 4 + i
        · subst h
          refine Eq.trans (b := v152) ?_ ?_
          · repeat (first | exact (zxe' (by omega)) | refine zxu (by decide) ?_)
          · rw [f152]
            unfold ckB
            rw [if_neg (by omega), if_neg (by omega), if_neg (by omega), if_neg (by omega), if_pos (by omega)]
            congr 1
            omega
        · refine Eq.trans ?_ (hb j (by omega))
          repeat (first | exact rfl | refine zxu (by decide) ?_ | refine zxs (by omega) ?_)
  · rintro nM lsM stM I1 L1 R1 S1 hz1 ⟨z, rfl, rfl, rfl, rfl, rfl, rfl, ha, hz9, hz100, hs17, hb, hz21, fr⟩
    have hRB1 : zRB cn t n I1 := zRB_fr hRB hz21 (fun c j h => fr c j (by omega) (by omega) (by omega) (by omega) (by omega) (by omega) (by omega) (by omega) (by omega) (by omega) (by omega) (by omega) (by omega) (by omega) )
    have hq := (hRC a.toNat (by omega)) k.toNat (by omega)
    have hrr := (hRB.2.2.2.2 a.toNat (by omega))
    have hpn : pfN (n a.toNat) k.toNat (rT (n a.toNat)) ≤ 3 := Nat.le_trans (pfN_le _ _ _) (rT_le _)
    have hl9 : ckL (n a.toNat) k.toNat = min 64 (n a.toNat - 64 * k.toNat) := rfl
    have hw0 : rW (n a.toNat) 0 = (n a.toNat + 63) / 64 := rfl
    have hc9 : ckC (n a.toNat) k.toNat = 5 + ckL (n a.toNat) k.toNat + 33 * pfN (n a.toNat) k.toNat (rT (n a.toNat)) := rfl
    have hby : ∀ j : Nat, 0 ≤ ckB (t a.toNat) (n a.toNat) a.toNat k.toNat j ∧ ckB (t a.toNat) (n a.toNat) a.toNat k.toNat j ≤ 255 := fun j => ckB_b (by omega) (by omega) (fun x hx => hrr.2.1 x hx) j
    refine And.intro (zA_165 hS) (zrdR (v := some 280) (zR_165_50 hR) ?_)
    refine And.intro (zA_280 hS) ⟨_, sn_B_proof.up (by decide), ?_⟩
    refine ⟨(a : Int), (k : Int), (z : Int), cn, t, n, rfl, hS, hR, (by omega), hRB1, ?_⟩
    intro v175o I175o p175hv p175bhz2 p175bbfr
    have g175 : v175o = if z < 1 + 33 * pfN (n a.toNat) k.toNat (rT (n a.toNat)) then pfB (t a.toNat) (n a.toNat) k.toNat (rT (n a.toNat)) z else -1 := (by rcases p175hv with q1 | q1; (exfalso; omega); (refine q1.2.2.trans ?_; by_cases q2 : z < 1 + 33 * pfN (n a.toNat) k.toNat (rT (n a.toNat)); (rw [if_pos (by omega), if_pos q2]; rfl); (rw [if_neg (by omega), if_neg q2])))
    have g175b : (z < 1 + 33 * pfN (n a.toNat) k.toNat (rT (n a.toNat)) ∧ v175o = pfB (t a.toNat) (n a.toNat) k.toNat (rT (n a.toNat)) z ∧ 0 ≤ v175o ∧ v175o ≤ 255) ∨ (¬ z < 1 + 33 * pfN (n a.toNat) k.toNat (rT (n a.toNat)) ∧ v175o = -1) := (by have q3 := pfB_b (t a.toNat) (n a.toNat) k.toNat (rT (n a.toNat)) z (rT_le _); by_cases q2 : z < 1 + 33 * pfN (n a.toNat) k.toNat (rT (n a.toNat)); (rw [if_pos q2] at g175; exact Or.inl ⟨q2, g175, by omega, by omega⟩); (rw [if_neg q2] at g175; exact Or.inr ⟨q2, g175⟩))
    refine And.intro ⟨(by omega), (zRb rfl)⟩ ⟨fun h179 => ?_, fun h179 => ?_⟩
    · refine And.intro ⟨(by omega), (zRb rfl)⟩ ⟨fun h210 => ?_, fun h210 => ?_⟩
      · refine hQ _ _ ?_ (by first | exact hz20 | (repeat (first | exact p175bhz2 | refine zxu (by decide) ?_ | exact p247bhz2))) (fun c j h0 h1 h2 h3 h4 h5 h6 h7 h8 h9 h10 h11 h12 h13 => ((p175bbfr c j h0 h1 h2 h3 h4 h5 h6 h7 h8 h9 h10 h11).trans ((fr c j h0 h1 h2 h3 h4 h5 h6 h7 h8 h9 h10 h11 h12 h13).trans rfl)))
        · first
          | exact Or.inl ⟨fun q => by omega, rfl⟩
          | (rcases p247hv with q1 | q1
             · exact Or.inr ⟨⟨by omega, by omega, by omega, by omega, by omega, by omega⟩, Or.inl q1⟩
             · exact Or.inr ⟨⟨by omega, by omega, by omega, by omega, by omega, by omega⟩, Or.inr q1⟩)
      · refine And.intro (zA_165 hS) (zrdR (v := some 280) (zR_165_50 hR) ?_)
        refine And.intro (zA_280 hS) (zrd (v := (4 + ckL (n a.toNat) k.toNat + z)) ((p175bbfr 280 17 (by omega) (by omega) (by omega) (by omega) (by omega) (by omega) (by omega) (by omega) (by omega) (by omega) (by omega) (by omega)).trans hs17) ?_)
        refine And.intro ⟨(by omega), (by omega)⟩ ⟨fun h221 => ?_, fun h221 => ?_⟩
        · refine And.intro ⟨(by omega), (zRb rfl)⟩ ⟨fun h228 => ?_, fun h228 => ?_⟩
          · refine And.intro (zA_165 hS) (zrdR (v := some 280) (zR_165_50 hR) ?_)
            refine And.intro (zA_280 hS) ⟨_, sn_B_checked.up (by decide), ?_⟩
            refine ⟨(ckC (n a.toNat) k.toNat), cn, t, n, (ckP (ckB (t a.toNat) (n a.toNat) a.toNat k.toNat) q m), rfl, hS, hR, (zRB_fr hRB1 (by repeat (first | exact p175bhz2 | refine zxu (by decide) ?_)) (fun c j h => by repeat (first | exact p175bbfr c j (by omega) (by omega) (by omega) (by omega) (by omega) (by omega) (by omega) (by omega) (by omega) (by omega) (by omega) (by omega)  | refine zxcj (by omega) ?_))), (by repeat (first | exact ((p175bbfr 280 17 (by omega) (by omega) (by omega) (by omega) (by omega) (by omega) (by omega) (by omega) (by omega) (by omega) (by omega) (by omega) ).trans hs17).trans (by omega) | refine zxu (by decide) ?_ | refine zxs (by decide) ?_)), (by omega), (by
  intro j hj
  have hx9 : 0 ≤ ckP (ckB (t a.toNat) (n a.toNat) a.toNat k.toNat) q m j ∧ ckP (ckB (t a.toNat) (n a.toNat) a.toNat k.toNat) q m j ≤ 255 := by
    unfold ckP
    split
    · exact zxor_byte (hby j) (by rw [zand255]; omega)
    · exact hby j
  refine ⟨?_, hx9⟩
  have hbj := (p175bbfr 294 j (by omega) (by omega) (by omega) (by omega) (by omega) (by omega) (by omega) (by omega) (by omega) (by omega) (by omega) (by omega) ).trans (hb j (by omega))
  unfold ckP
  first
  | (rw [if_neg (by omega)]
     repeat (first | exact hbj | refine zxu (by decide) ?_))
  | (by_cases h : (j : Int) = q
     · rw [if_pos h]
       rw [show q.toNat = j by omega]
       refine zxe.trans (congrArg (fun z => zxor z (zand m 255)) (e40_238.trans ?_))
       rw [show q.toNat = j by omega]
       repeat (first | exact hbj | refine zxu (by decide) ?_ | refine zxs (by decide) ?_)
     · rw [if_neg h]
       repeat (first | exact hbj | refine zxu (by decide) ?_ | refine zxs (by omega) ?_))), ?_⟩
            intro v247o I247o p247hv p247bhz2 p247bbfr
            refine hQ _ _ ?_ (by first | exact hz20 | (repeat (first | exact p175bhz2 | refine zxu (by decide) ?_ | exact p247bhz2))) (fun c j h0 h1 h2 h3 h4 h5 h6 h7 h8 h9 h10 h11 h12 h13 => ((p247bbfr c j h0 h1 h2 h3 h4 h6 h5 h8).trans ((p175bbfr c j h0 h1 h2 h3 h4 h5 h6 h7 h8 h9 h10 h11).trans ((fr c j h0 h1 h2 h3 h4 h5 h6 h7 h8 h9 h10 h11 h12 h13).trans rfl))))
            · first
              | exact Or.inl ⟨fun q => by omega, rfl⟩
              | (rcases p247hv with q1 | q1
                 · exact Or.inr ⟨⟨by omega, by omega, by omega, by omega, by omega, by omega⟩, Or.inl q1⟩
                 · exact Or.inr ⟨⟨by omega, by omega, by omega, by omega, by omega, by omega⟩, Or.inr q1⟩)
          · refine And.intro (zA_165 hS) (zrdR (v := some 280) (zR_165_50 hR) ?_)
            refine And.intro (zA_280 hS) (Exists.intro _ (And.intro (zinl_ok (zT19_23 4)) (And.intro rfl ?_)))
            refine And.intro (by omega) ⟨(fun h2_238 => False.elim (by omega)), fun h2_238 => ?_⟩
            refine And.intro (zA_280 hS) (zrd (v := (4 + ckL (n a.toNat) k.toNat + z)) ((p175bbfr 280 17 (by omega) (by omega) (by omega) (by omega) (by omega) (by omega) (by omega) (by omega) (by omega) (by omega) (by omega) (by omega)).trans hs17) ?_)
            refine And.intro ⟨(by omega), (by omega)⟩ ⟨(fun h10_238 => False.elim (by omega)), fun h10_238 => ?_⟩
            refine And.intro (zA_280 hS) ⟨_, (zWi (zRb rfl)), ?_⟩
            refine And.intro (zA_280 hS) (zrd (v := 0) rfl ?_)
            refine And.intro (zRb rfl) (zbt rfl ?_)
            refine And.intro (zA_280 hS) (zrdR (v := some 294) (zR_280_18 hR) ?_)
            refine And.intro (zA_280 hS) (zrdR (v := some 294) (zR_280_18 hR) ?_)
            refine And.intro (zP_294 hS (by omega) (by omega)) (fun v40_238 e40_238 r40_238 => ?_)
            have b45_238 : (zand m 255) = m % 256 := zand255 _
            refine And.intro ⟨(zx0 rfl), (zP_294 hS (by omega) (by omega))⟩ ⟨_, (zWi zr_xor), ?_⟩
            have b52_238 : (zand m 255) = m % 256 := zand255 _
            refine And.intro zr_and ⟨fun h53_238 => ?_, fun h53_238 => ?_⟩
            · refine And.intro (Or.inl rfl) ?_
              refine And.intro (zA_165 hS) (zrdR (v := some 280) (zR_165_50 hR) ?_)
              refine And.intro (zA_280 hS) ⟨_, sn_B_checked.up (by decide), ?_⟩
              refine ⟨(ckC (n a.toNat) k.toNat), cn, t, n, (ckP (ckB (t a.toNat) (n a.toNat) a.toNat k.toNat) q m), rfl, hS, hR, (zRB_fr hRB1 (by repeat (first | exact p175bhz2 | refine zxu (by decide) ?_)) (fun c j h => by repeat (first | exact p175bbfr c j (by omega) (by omega) (by omega) (by omega) (by omega) (by omega) (by omega) (by omega) (by omega) (by omega) (by omega) (by omega)  | refine zxcj (by omega) ?_))), (by repeat (first | exact ((p175bbfr 280 17 (by omega) (by omega) (by omega) (by omega) (by omega) (by omega) (by omega) (by omega) (by omega) (by omega) (by omega) (by omega) ).trans hs17).trans (by omega) | refine zxu (by decide) ?_ | refine zxs (by decide) ?_)), (by omega), (by
  intro j hj
  have hx9 : 0 ≤ ckP (ckB (t a.toNat) (n a.toNat) a.toNat k.toNat) q m j ∧ ckP (ckB (t a.toNat) (n a.toNat) a.toNat k.toNat) q m j ≤ 255 := by
    unfold ckP
    split
    · exact zxor_byte (hby j) (by rw [zand255]; omega)
    · exact hby j
  refine ⟨?_, hx9⟩
  have hbj := (p175bbfr 294 j (by omega) (by omega) (by omega) (by omega) (by omega) (by omega) (by omega) (by omega) (by omega) (by omega) (by omega) (by omega) ).trans (hb j (by omega))
  unfold ckP
  first
  | (rw [if_neg (by omega)]
     repeat (first | exact hbj | refine zxu (by decide) ?_))
  | (by_cases h : (j : Int) = q
     · rw [if_pos h]
       rw [show q.toNat = j by omega]
       refine zxe.trans (congrArg (fun z => zxor z (zand m 255)) (e40_238.trans ?_))
       rw [show q.toNat = j by omega]
       repeat (first | exact hbj | refine zxu (by decide) ?_ | refine zxs (by decide) ?_)
     · rw [if_neg h]
       repeat (first | exact hbj | refine zxu (by decide) ?_ | refine zxs (by omega) ?_))), ?_⟩
              intro v247o I247o p247hv p247bhz2 p247bbfr
              refine hQ _ _ ?_ (by first | exact hz20 | (repeat (first | exact p175bhz2 | refine zxu (by decide) ?_ | exact p247bhz2))) (fun c j h0 h1 h2 h3 h4 h5 h6 h7 h8 h9 h10 h11 h12 h13 => ((p247bbfr c j h0 h1 h2 h3 h4 h6 h5 h8).trans (zxu h13 (zxcj h8 ((p175bbfr c j h0 h1 h2 h3 h4 h5 h6 h7 h8 h9 h10 h11).trans ((fr c j h0 h1 h2 h3 h4 h5 h6 h7 h8 h9 h10 h11 h12 h13).trans rfl))))))
              · first
                | exact Or.inl ⟨fun q => by omega, rfl⟩
                | (rcases p247hv with q1 | q1
                   · exact Or.inr ⟨⟨by omega, by omega, by omega, by omega, by omega, by omega⟩, Or.inl q1⟩
                   · exact Or.inr ⟨⟨by omega, by omega, by omega, by omega, by omega, by omega⟩, Or.inr q1⟩)
            · refine And.intro (Or.inr rfl) ?_
              refine And.intro (zA_165 hS) (zrdR (v := some 280) (zR_165_50 hR) ?_)
              refine And.intro (zA_280 hS) ⟨_, sn_B_checked.up (by decide), ?_⟩
              refine ⟨(ckC (n a.toNat) k.toNat), cn, t, n, (ckP (ckB (t a.toNat) (n a.toNat) a.toNat k.toNat) q m), rfl, hS, hR, (zRB_fr hRB1 (by repeat (first | exact p175bhz2 | refine zxu (by decide) ?_)) (fun c j h => by repeat (first | exact p175bbfr c j (by omega) (by omega) (by omega) (by omega) (by omega) (by omega) (by omega) (by omega) (by omega) (by omega) (by omega) (by omega)  | refine zxcj (by omega) ?_))), (by repeat (first | exact ((p175bbfr 280 17 (by omega) (by omega) (by omega) (by omega) (by omega) (by omega) (by omega) (by omega) (by omega) (by omega) (by omega) (by omega) ).trans hs17).trans (by omega) | refine zxu (by decide) ?_ | refine zxs (by decide) ?_)), (by omega), (by
  intro j hj
  have hx9 : 0 ≤ ckP (ckB (t a.toNat) (n a.toNat) a.toNat k.toNat) q m j ∧ ckP (ckB (t a.toNat) (n a.toNat) a.toNat k.toNat) q m j ≤ 255 := by
    unfold ckP
    split
    · exact zxor_byte (hby j) (by rw [zand255]; omega)
    · exact hby j
  refine ⟨?_, hx9⟩
  have hbj := (p175bbfr 294 j (by omega) (by omega) (by omega) (by omega) (by omega) (by omega) (by omega) (by omega) (by omega) (by omega) (by omega) (by omega) ).trans (hb j (by omega))
  unfold ckP
  first
  | (rw [if_neg (by omega)]
     repeat (first | exact hbj | refine zxu (by decide) ?_))
  | (by_cases h : (j : Int) = q
     · rw [if_pos h]
       rw [show q.toNat = j by omega]
       refine zxe.trans (congrArg (fun z => zxor z (zand m 255)) (e40_238.trans ?_))
       rw [show q.toNat = j by omega]
       repeat (first | exact hbj | refine zxu (by decide) ?_ | refine zxs (by decide) ?_)
     · rw [if_neg h]
       repeat (first | exact hbj | refine zxu (by decide) ?_ | refine zxs (by omega) ?_))), ?_⟩
              intro v247o I247o p247hv p247bhz2 p247bbfr
              refine hQ _ _ ?_ (by first | exact hz20 | (repeat (first | exact p175bhz2 | refine zxu (by decide) ?_ | exact p247bhz2))) (fun c j h0 h1 h2 h3 h4 h5 h6 h7 h8 h9 h10 h11 h12 h13 => ((p247bbfr c j h0 h1 h2 h3 h4 h6 h5 h8).trans (zxu h13 (zxcj h8 ((p175bbfr c j h0 h1 h2 h3 h4 h5 h6 h7 h8 h9 h10 h11).trans ((fr c j h0 h1 h2 h3 h4 h5 h6 h7 h8 h9 h10 h11 h12 h13).trans rfl))))))
              · first
                | exact Or.inl ⟨fun q => by omega, rfl⟩
                | (rcases p247hv with q1 | q1
                   · exact Or.inr ⟨⟨by omega, by omega, by omega, by omega, by omega, by omega⟩, Or.inl q1⟩
                   · exact Or.inr ⟨⟨by omega, by omega, by omega, by omega, by omega, by omega⟩, Or.inr q1⟩)
        · refine hQ _ _ ?_ (by first | exact hz20 | (repeat (first | exact p175bhz2 | refine zxu (by decide) ?_ | exact p247bhz2))) (fun c j h0 h1 h2 h3 h4 h5 h6 h7 h8 h9 h10 h11 h12 h13 => ((p175bbfr c j h0 h1 h2 h3 h4 h5 h6 h7 h8 h9 h10 h11).trans ((fr c j h0 h1 h2 h3 h4 h5 h6 h7 h8 h9 h10 h11 h12 h13).trans rfl)))
          · first
            | exact Or.inl ⟨fun q => by omega, rfl⟩
            | (rcases p247hv with q1 | q1
               · exact Or.inr ⟨⟨by omega, by omega, by omega, by omega, by omega, by omega⟩, Or.inl q1⟩
               · exact Or.inr ⟨⟨by omega, by omega, by omega, by omega, by omega, by omega⟩, Or.inr q1⟩)
    · have t179 : z < 1 + 33 * pfN (n a.toNat) k.toNat (rT (n a.toNat)) ∧ 0 ≤ v175o := (by omega)
      refine And.intro (zA_165 hS) (zrdR (v := some 280) (zR_165_50 hR) ?_)
      refine And.intro (zA_165 hS) (zrdR (v := some 280) (zR_165_50 hR) ?_)
      refine And.intro (zA_280 hS) ⟨_, sn_B_proof.up (by decide), ?_⟩
      refine ⟨(a : Int), (k : Int), (z : Int), cn, t, n, rfl, hS, hR, (by omega), (zRB_fr hRB1 p175bhz2 (fun c j h => p175bbfr c j (by omega) (by omega) (by omega) (by omega) (by omega) (by omega) (by omega) (by omega) (by omega) (by omega) (by omega) (by omega) )), ?_⟩
      intro v194o I194o p194hv p194bhz2 p194bbfr
      have g194 : v194o = if z < 1 + 33 * pfN (n a.toNat) k.toNat (rT (n a.toNat)) then pfB (t a.toNat) (n a.toNat) k.toNat (rT (n a.toNat)) z else -1 := (by rcases p194hv with q1 | q1; (exfalso; omega); (refine q1.2.2.trans ?_; by_cases q2 : z < 1 + 33 * pfN (n a.toNat) k.toNat (rT (n a.toNat)); (rw [if_pos (by omega), if_pos q2]; rfl); (rw [if_neg (by omega), if_neg q2])))
      have g194b : (z < 1 + 33 * pfN (n a.toNat) k.toNat (rT (n a.toNat)) ∧ v194o = pfB (t a.toNat) (n a.toNat) k.toNat (rT (n a.toNat)) z ∧ 0 ≤ v194o ∧ v194o ≤ 255) ∨ (¬ z < 1 + 33 * pfN (n a.toNat) k.toNat (rT (n a.toNat)) ∧ v194o = -1) := (by have q3 := pfB_b (t a.toNat) (n a.toNat) k.toNat (rT (n a.toNat)) z (rT_le _); by_cases q2 : z < 1 + 33 * pfN (n a.toNat) k.toNat (rT (n a.toNat)); (rw [if_pos q2] at g194; exact Or.inl ⟨q2, g194, by omega, by omega⟩); (rw [if_neg q2] at g194; exact Or.inr ⟨q2, g194⟩))
      have g194bb : 0 ≤ v194o ∧ v194o ≤ 255 := (by omega)
      refine And.intro (zA_280 hS) (Exists.intro _ (And.intro (zinl_ok (zT19_4 4)) (And.intro rfl ?_)))
      refine And.intro (zA_280 hS) ⟨_, (zWi (zRb rfl)), ?_⟩
      refine Exists.intro _ (And.intro (zinl_ok (zT19_16 3)) (And.intro rfl ?_))
      refine And.intro (by omega) ⟨(fun h1_197_6 => False.elim (by omega)), fun h1_197_6 => ?_⟩
      refine And.intro ⟨(by omega), (zRb rfl)⟩ ⟨(fun h8_197_6 => False.elim (by omega)), fun h8_197_6 => ?_⟩
      refine And.intro (Or.inr rfl) ?_
      refine And.intro (zRb rfl) (zbf rfl ?_)
      refine And.intro (zA_280 hS) (zrd (v := (4 + ckL (n a.toNat) k.toNat + z)) ((p194bbfr 280 17 (by omega) (by omega) (by omega) (by omega) (by omega) (by omega) (by omega) (by omega) (by omega) (by omega) (by omega) (by omega)).trans ((p175bbfr 280 17 (by omega) (by omega) (by omega) (by omega) (by omega) (by omega) (by omega) (by omega) (by omega) (by omega) (by omega) (by omega)).trans hs17)) ?_)
      refine And.intro ⟨(by omega), (zRb rfl)⟩ ⟨fun h19_197 => ?_, (fun h19_197 => False.elim (by omega))⟩
      refine And.intro (zA_280 hS) (zrdR (v := some 294) (zR_280_18 hR) ?_)
      refine And.intro (zA_280 hS) (zrd (v := (4 + ckL (n a.toNat) k.toNat + z)) ((p194bbfr 280 17 (by omega) (by omega) (by omega) (by omega) (by omega) (by omega) (by omega) (by omega) (by omega) (by omega) (by omega) (by omega)).trans ((p175bbfr 280 17 (by omega) (by omega) (by omega) (by omega) (by omega) (by omega) (by omega) (by omega) (by omega) (by omega) (by omega) (by omega)).trans hs17)) ?_)
      refine And.intro ⟨(zx0 rfl), (zP_294 hS (by omega) (by omega))⟩ ⟨_, (zWi (by omega)), ?_⟩
      refine And.intro (zA_280 hS) (zrd (v := (4 + ckL (n a.toNat) k.toNat + z)) ((p194bbfr 280 17 (by omega) (by omega) (by omega) (by omega) (by omega) (by omega) (by omega) (by omega) (by omega) (by omega) (by omega) (by omega)).trans ((p175bbfr 280 17 (by omega) (by omega) (by omega) (by omega) (by omega) (by omega) (by omega) (by omega) (by omega) (by omega) (by omega) (by omega)).trans hs17)) ?_)
      refine And.intro (zA_280 hS) ⟨_, (zWi (by omega)), ?_⟩
      refine And.intro (Or.inr rfl) ?_
      refine ⟨(2, (200 - (z + 1)), 0), zlt6 (by omega), [some (zvr (165)), some (zvi (a)), some (zvi (k)), some (zvi (q)), some (zvi (m)), none, none, some (zvi ((z + 1)))], ⟨rfl, rfl, rfl, rfl, rfl, rfl, rfl⟩, (z + 1), rfl, rfl, rfl, rfl, rfl, rfl, (by omega), (by omega), (by omega), (by first | omega | (repeat (first | exact (zxe' (by omega)).trans (by omega) | refine zxu (by decide) ?_ | refine zxs (by decide) ?_))), ?_, (by repeat (first | exact p194bhz2 | refine zxu (by decide) ?_ | refine zxs (by decide) ?_)), (fun c j h0 h1 h2 h3 h4 h5 h6 h7 h8 h9 h10 h11 h12 h13 => (zxcj h12 (zxu h13 (zxcj h8 ((p194bbfr c j h0 h1 h2 h3 h4 h5 h6 h7 h8 h9 h10 h11).trans ((p175bbfr c j h0 h1 h2 h3 h4 h5 h6 h7 h8 h9 h10 h11).trans ((fr c j h0 h1 h2 h3 h4 h5 h6 h7 h8 h9 h10 h11 h12 h13).trans rfl)))))))⟩
      · intro j hj
        by_cases h : j = 4 + ckL (n a.toNat) k.toNat + z
        · subst h
          refine Eq.trans (b := v194o) ?_ ?_
          · repeat (first | exact (zxe' (by omega)) | refine zxu (by decide) ?_)
          · rcases g194b with q1 | q1
            · rw [q1.2.1]
              unfold ckB
              rw [if_neg (by omega), if_neg (by omega), if_neg (by omega), if_neg (by omega), if_neg (by omega)]
              congr 1
              omega
            · exfalso; omega
        · refine Eq.trans ?_ (hb j (by omega))
          repeat (first | exact (p194bbfr _ _ (by omega) (by omega) (by omega) (by omega) (by omega) (by omega) (by omega) (by omega) (by omega) (by omega) (by omega) (by omega) ).trans (p175bbfr _ _ (by omega) (by omega) (by omega) (by omega) (by omega) (by omega) (by omega) (by omega) (by omega) (by omega) (by omega) (by omega) ) | refine zxu (by decide) ?_ | refine zxs (by omega) ?_))
