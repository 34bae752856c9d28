/-! kl -/
def T_O_kpl : ZT := fun args I L R S Q => ∃ (c : Nat → Int) (n : Nat) (k : Nat) (a9 : Int) (j : Int) (j_ : Nat) (q : Int) (q_ : Nat) (e : Int) (e_ : Nat) (cc : Nat) (kc : Nat), args = [zvr k, zvi j, zvr 42, zvi q, zvi e] ∧ (zSh S) ∧ (zRs R) ∧ (zDy zT2 zF2 k R S) ∧ (∀ p : Nat, p < n → I 42 p = c p) ∧ (tOk c n) ∧ (I k 0 = a9) ∧ (0 ≤ a9 ∧ a9 ≤ 200) ∧ (43 ≤ k ∧ k ≤ 52) ∧ (j = j_ ∧ j_ < a9) ∧ (q = q_ ∧ q_ ≤ e_) ∧ (e = e_ ∧ e_ ≤ n) ∧ (I k 10 = cc) ∧ (cc ≤ q_) ∧ (I k 2 = kc) ∧ (kc ≤ 2000) ∧ (I (k + 6) (2 * j_) = 0) ∧ ∀ (I' : ZI), (I' k 2 = kc + (e_ - q_ : Nat)) → (I' k 10 = cc + (e_ - q_ : Nat)) → (I' (k + 5) (2 * j_) = cc) → (I' (k + 6) (2 * j_) = (e_ - q_ : Nat)) → (∀ t, t < e_ - q_ → I' (k + 7) (cc + t) = c (q_ + t)) → (∀ c j : Nat, ¬ (c = k ∧ j = 2) → ¬ (c = k ∧ j = 10) → ¬ (c = k + 5 ∧ j = 2 * j_) → ¬ (c = k + 6 ∧ j = 2 * j_) → ¬ (c = k + 7 ∧ cc ≤ j) → I' c j = I c j) → Q none I' L R S
theorem sn_O_kpl : ZSnd 3 2 15 T_O_kpl := ZSnd.loops (zT2_15 2) (by
  rintro args I L R S Q hz ⟨c, n, k, a9, j, j_, q, q_, e, e_, cc, kc, rfl, hS, hR, hD, x2, hc, ho0, ha9, hk, hj, hq, he, hcc, hcq, hkc, hkc2, hm0, hQ⟩
  have hn4 := hc.1
  refine ⟨[9], fun nM tM lsM stM I1 L1 R1 S1 => match tM with
      | 9 => ∃ (m : Nat) (i : Nat), nM = ((5000 - m), 0, 0) ∧ lsM = [some (zvr (k)), some (zvi (j_)), some (zvr (42)), some (zvi (q_)), some (zvi (e_)), some (zvi (i))] ∧ stM = [] ∧ L1 = L ∧ R1 = R ∧ S1 = S ∧ (i = q_ + m) ∧ (i ≤ e_) ∧ (I1 k 10 = cc + m) ∧ (I1 (k + 5) (2 * j_) = cc) ∧ (I1 (k + 6) (2 * j_) = m) ∧ (∀ t, t < m → I1 (k + 7) (cc + t) = c (q_ + t)) ∧ (∀ c j : Nat, ¬ (c = k ∧ j = 10) → ¬ (c = k + 5 ∧ j = 2 * j_) → ¬ (c = k + 6 ∧ j = 2 * j_) → ¬ (c = k + 7 ∧ cc ≤ j) → I1 c j = I c j)
      | _ => False, rfl, ?_, ⟨?_, True.intro⟩⟩
  · refine And.intro (zDX hD 0 rfl) ⟨_, sn_O_stx.up (by decide), ?_⟩
    refine ⟨k, a9, (j : Int), j_, (0 : Int), 0, cc, rfl, hS, hR, hD, ho0, (by omega), (by omega), (by omega), hcc, (by omega), ?_⟩
    intro I3o p3hs p3bfr
    refine ⟨((5000 - (0 : Nat)), 0, 0), [some (zvr (k)), some (zvi (j_)), some (zvr (42)), some (zvi (q_)), some (zvi (e_)), some (zvi (q_))], ⟨rfl, (congrArg (fun z => some (zvi z)) (by omega)), rfl, (congrArg (fun z => some (zvi z)) (by omega)), (congrArg (fun z => some (zvi z)) (by omega)), (congrArg (fun z => some (zvi z)) (by omega)), rfl⟩, 0, q_, rfl, rfl, rfl, rfl, rfl, rfl, (by omega), (by omega), (Eq.trans (b := (cc : Int)) ((p3bfr k 10 (by omega)).trans hcc) (by omega)), p3hs, (((p3bfr (k + 6) _ (by omega)).trans rfl).trans hm0), (fun t h => absurd h (Nat.not_lt_zero t)), (fun c j h0 h1 h2 h3 => ((p3bfr c j (by omega)).trans rfl))⟩
  · rintro nM lsM stM I1 L1 R1 S1 hz1 ⟨m, i, rfl, rfl, rfl, rfl, rfl, rfl, hi, hie, hc1, hs5, hm1, hl, fr⟩
    have ci := tOk_b (p := i) hc
    refine And.intro ⟨(by omega), (by omega)⟩ ⟨fun h13 => ?_, fun h13 => ?_⟩
    · refine And.intro (zDX hD 0 rfl) (zrd (v := kc) ((fr k 2 (by omega) (by omega) (by omega) (by omega)).trans hkc) ?_)
      refine And.intro (zDX hD 0 rfl) ⟨_, (zWi (by omega)), ?_⟩
      refine hQ _ (zxe.trans (by omega)) ((zxcj (by omega) rfl).trans (hc1.trans (by omega))) ((zxu (by omega) rfl).trans hs5) ((zxu (by omega) rfl).trans (hm1.trans (by omega))) (fun t ht => (zxu (by omega) rfl).trans (hl t (by omega))) (fun c j h0 h1 h2 h3 h4 => (zxcj h0 ((fr c j h1 (by omega) (by omega) (by omega)).trans rfl)))
    · refine And.intro (zN_42 hS) (zrdN (v := 4000) (zV_42 hS) ?_)
      refine And.intro ⟨(by omega), (zRb rfl)⟩ ⟨(fun h20 => False.elim (by omega)), fun h20 => ?_⟩
      refine And.intro (zP_42 hS (by omega) (by omega)) (fun v29 e29 r29 => ?_)
      have f29 : v29 = c i := (e29.trans (((fr 42 _ (by omega) (by omega) (by omega) (by omega)).trans rfl).trans ((congrArg (I 42) (by omega)).trans (x2 i (by omega)))))
      refine And.intro (zDX hD 0 rfl) ⟨_, sn_O_adl.up (by decide), ?_⟩
      refine ⟨k, a9, (j_ : Int), j_, (0 : Int), 0, (cc + m), (v29 : Int), m, rfl, hS, hR, hD, ((fr k 0 (by omega) (by omega) (by omega) (by omega)).trans ho0), (by omega), (by omega), (by omega), hc1, (by omega), (by omega), hm1, (by omega), ?_⟩
      intro I30o p30hc1 p30bhm1 p30bbhl1 p30bbbfr
      refine ⟨((5000 - (m + 1)), 0, 0), zlt6 (by omega), [some (zvr (k)), some (zvi (j_)), some (zvr (42)), some (zvi (q_)), some (zvi (e_)), some (zvi ((i + 1)))], ⟨rfl, rfl, rfl, rfl, rfl, rfl, rfl⟩, (m + 1), (i + 1), rfl, rfl, rfl, rfl, rfl, rfl, (by omega), (by omega), (Eq.trans (b := (((cc + m) + 1) : Int)) p30hc1 (by omega)), (((p30bbbfr (k + 5) _ (by omega) (by omega) (by omega)).trans rfl).trans hs5), p30bhm1, ?_, (fun c j h0 h1 h2 h3 => ((p30bbbfr c j h0 (by omega) (by omega)).trans ((fr c j h0 (by omega) (by omega) (by omega)).trans rfl)))⟩
      · intro t ht
        by_cases e : t = m
        · subst e
          exact p30bbhl1.trans (f29.trans (congrArg c (by omega)))
        · exact ((p30bbbfr (k + 7) _ (by omega) (by omega) (by omega)).trans rfl).trans (hl t (by omega)))
def T_K_skq : ZT := fun args I L R S Q => ∃ (c : Nat → Int) (n : Nat) (p : Nat) (lim : Nat) (ar : Nat) (q0 : Nat) (i_ : Nat) (l : Int), args = [zvr 61, zvi l] ∧ (zSh S) ∧ (zRs R) ∧ (R 61 0 = some 42) ∧ (zRD c n I) ∧ (tOk c n) ∧ (I 61 2 = p) ∧ (p < n) ∧ (l = lim ∧ lim ≤ 7000) ∧ (p < lim) ∧ (c p = 34) ∧ (I 61 3 = -1) ∧ (i_ ≠ 0) ∧ (tuV c n lim ar q0 i_ 0 (-1) p) ∧ ∀ (I' : ZI) (fv : Int) (pv : Nat), (I' 61 3 = fv) → (I' 61 2 = pv) → (tuV c n lim ar q0 i_ 0 fv pv) → (-1 ≤ fv ∧ fv ≤ 9000) → (fv = -1 → p + 2 ≤ pv ∧ pv ≤ n ∧ pv ≤ lim) → (0 ≤ pv ∧ pv ≤ 4010) → (∀ c j : Nat, ¬ (c = 61 ∧ j = 2) → ¬ (c = 61 ∧ j = 3) → I' c j = I c j) → Q none I' L R S
theorem sn_K_skq : ZSnd 3 9 27 T_K_skq := ZSnd.loops (zT9_27 2) (by
  rintro args I L R S Q hz ⟨c, n, p, lim, ar, q0, i_, l, rfl, hS, hR, htx, hX, hc, hp, hpn, hl, hpl, hcp, hf0, hi, hv, hQ⟩
  obtain ⟨x1, x2⟩ := id hX
  have hn4 := hc.1
  have hv1 : tuV c n lim ar q0 i_ 1 (-1) ((p + 1 : Nat) : Int) := tuV_o hv rfl hi (by omega) (by omega) (by omega) (Or.inr (Or.inr ⟨by omega, by omega, rfl⟩)) (Or.inl ⟨hcp, rfl⟩) (by omega)
  refine ⟨[14], fun nM tM lsM stM I1 L1 R1 S1 => match tM with
      | 14 => ∃ (q : Nat) (e : Int) (f : Int) (z : Nat), nM = ((4100 - z), 0, 0) ∧ lsM = [some (zvr (61)), some (zvi (lim)), some (zvi (e)), some (zvi (z))] ∧ stM = [] ∧ L1 = L ∧ R1 = R ∧ S1 = S ∧ (z ≤ 4002) ∧ (q ≤ 4010) ∧ (0 ≤ e ∧ e ≤ 1) ∧ (-1 ≤ f ∧ f ≤ 9000) ∧ (I1 61 3 = f) ∧ (I1 61 2 = q) ∧ (f = -1 → p + 1 + z ≤ q ∧ q ≤ n ∧ q ≤ lim ∧ (e = 1 → 1 ≤ z)) ∧ ((e = 0 ∧ tuV c n lim ar q0 i_ 1 f q) ∨ (e = 1 ∧ tuV c n lim ar q0 i_ 0 f q)) ∧ (∀ c j : Nat, ¬ (c = 61 ∧ j = 2) → ¬ (c = 61 ∧ j = 3) → I1 c j = I c j)
      | _ => False, rfl, ?_, ⟨?_, True.intro⟩⟩
  · refine And.intro (zA_61 hS) (zrd (v := p) hp ?_)
    refine And.intro (zA_61 hS) ⟨_, (zWi (by omega)), ?_⟩
    refine ⟨((4100 - (0 : Nat)), 0, 0), [some (zvr (61)), some (zvi (lim)), some (zvi ((0 : Int))), some (zvi ((0 : Nat)))], ⟨rfl, (congrArg (fun z => some (zvi z)) (by omega)), rfl, rfl, rfl⟩, (p + 1), 0, (-1), 0, rfl, rfl, rfl, rfl, rfl, rfl, (by omega), (by omega), (by omega), (by omega), hf0, rfl, (fun _ => ⟨by omega, by omega, by omega, fun w => by omega⟩), (Or.inl ⟨rfl, hv1⟩), (fun c j h0 h1 => (zxcj h0 rfl))⟩
  · rintro nM lsM stM I1 L1 R1 S1 hz1 ⟨q, e, f, z, rfl, rfl, rfl, rfl, rfl, rfl, hz, hqb, heb, hfb, hfv, hpl1, hq, hst, fr⟩
    have cq := hc.2.1 q
    have cq1 := hc.2.1 (q + 1)
    have cq2 := hc.2.2 q
    have cq3 := hc.2.2 (q + 1)
    refine And.intro (zA_61 hS) (zrd (v := n) ((fr 61 1 (by omega) (by omega)).trans x1) ?_)
    refine And.intro ⟨(by omega), (by omega)⟩ ⟨fun h19 => ?_, fun h19 => ?_⟩
    · refine hQ _ _ _ hfv hpl1 ?_ hfb (fun h9 => by have w := hq (by omega); exact ⟨by omega, by omega, by omega⟩) (by omega) (fun c j h0 h1 => ((fr c j h0 h1).trans rfl))
      · rcases hst with ⟨z0, z⟩ | ⟨z0, z⟩
        · by_cases hf : f = -1
          · exfalso
            have := hq hf
            omega
          · exact tuV_p z hf
        · exact z
    · refine And.intro (zA_61 hS) (zrd (v := f) hfv ?_)
      refine And.intro ⟨(by omega), (zRb rfl)⟩ ⟨fun h27 => ?_, fun h27 => ?_⟩
      · refine hQ _ _ _ hfv hpl1 ?_ hfb (fun h9 => by have w := hq (by omega); exact ⟨by omega, by omega, by omega⟩) (by omega) (fun c j h0 h1 => ((fr c j h0 h1).trans rfl))
        · rcases hst with ⟨z0, z⟩ | ⟨z0, z⟩
          · by_cases hf : f = -1
            · exfalso
              have := hq hf
              omega
            · exact tuV_p z hf
          · exact z
      · refine And.intro (by omega) ⟨fun h31 => ?_, fun h31 => ?_⟩
        · refine hQ _ _ _ hfv hpl1 ?_ hfb (fun h9 => by have w := hq (by omega); exact ⟨by omega, by omega, by omega⟩) (by omega) (fun c j h0 h1 => ((fr c j h0 h1).trans rfl))
          · rcases hst with ⟨z0, z⟩ | ⟨z0, z⟩
            · by_cases hf : f = -1
              · exfalso
                have := hq hf
                omega
              · exact tuV_p z hf
            · exact z
        · refine And.intro (zA_61 hS) ⟨_, sn_K_peek.up (by decide), ?_⟩
          refine ⟨c, n, q, rfl, hS, hR, htx, (by first | exact (zRD_fr hX (fun c j h => ((fr c j (by omega) (by omega)).trans rfl))) | (clear hQ; grind [xu])), (by first | exact hc | (clear hQ; grind [xu])), hpl1, (by omega), ?_⟩
          intro v35o p35hv p35bhv2
          refine And.intro ⟨(by omega), (zRb rfl)⟩ ⟨fun h40 => ?_, fun h40 => ?_⟩
          · refine And.intro (zA_61 hS) (zrd (v := q) hpl1 ?_)
            refine And.intro ⟨(by omega), (by omega)⟩ ⟨fun h54 => ?_, fun h54 => ?_⟩
            · refine And.intro (zA_61 hS) (zrd (v := q) hpl1 ?_)
              refine And.intro (zA_61 hS) (zrd (v := n) ((fr 61 1 (by omega) (by omega)).trans x1) ?_)
              refine And.intro ⟨(by omega), (by omega)⟩ ⟨fun h69 => ?_, fun h69 => ?_⟩
              · refine And.intro (zA_61 hS) (zrd (v := q) hpl1 ?_)
                refine And.intro (zA_61 hS) (Exists.intro _ (And.intro (zinl_ok (zT9_2 1)) (And.intro rfl ?_)))
                refine And.intro (zA_61 hS) (zrd (v := f) hfv ?_)
                refine And.intro ⟨(by omega), (zRb rfl)⟩ ⟨(fun h5_85 => False.elim (by omega)), fun h5_85 => ?_⟩
                refine And.intro (zA_61 hS) ⟨_, (zWi (by omega)), ?_⟩
                refine And.intro (zA_61 hS) (zrd (v := q) hpl1 ?_)
                refine And.intro (zA_61 hS) ⟨_, (zWi (by omega)), ?_⟩
                refine ⟨((4100 - (z + 1)), 0, 0), zlt6 (by omega), [some (zvr (61)), some (zvi (lim)), some (zvi ((0 : Int))), some (zvi ((z + 1)))], ⟨rfl, rfl, rfl, rfl, rfl⟩, (q + 1), 0, q, (z + 1), rfl, rfl, rfl, rfl, rfl, rfl, (by omega), (by omega), (by omega), (by omega), rfl, rfl, (fun h9 => by first | (exfalso; omega) | exact ⟨by omega, by omega, by omega, fun _ => by omega⟩), ?_, (fun c j h0 h1 => (zxcj h0 (zxcj h1 ((fr c j h0 h1).trans rfl))))⟩
                · have hf : f = -1 := by omega
                  subst hf
                  rcases hst with ⟨z0, z⟩ | ⟨z0, z⟩
                  · first
                    | exact Or.inr ⟨rfl, tuV_tq z rfl hi (by omega) (by omega) (by omega) (by omega)⟩
                    | exact Or.inl ⟨rfl, tuV_tn z rfl hi (by omega) (by omega) (by omega) (by omega) (by omega)⟩
                    | exact Or.inl ⟨rfl, tuV_te z rfl hi (by omega) (by omega) (by omega) (by omega) (by omega)⟩
                    | exact Or.inl ⟨rfl, tuV_f1 z rfl hi (by omega) (by omega)⟩
                    | exact Or.inr ⟨rfl, tuV_f1 z rfl hi (by omega) (by omega)⟩
                    | exact Or.inl ⟨rfl, tuV_f2 z rfl hi (by omega) (by omega) (by omega) (by omega) (by omega)⟩
                  · exfalso; omega
              · refine And.intro (zA_61 hS) (zrd (v := q) hpl1 ?_)
                refine And.intro ⟨(by omega), (by omega)⟩ ⟨(fun h77 => False.elim (by omega)), fun h77 => ?_⟩
                refine And.intro (zA_61 hS) (zrd (v := q) hpl1 ?_)
                refine And.intro (zA_61 hS) (Exists.intro _ (And.intro (zinl_ok (zT9_2 1)) (And.intro rfl ?_)))
                refine And.intro (zA_61 hS) (zrd (v := f) hfv ?_)
                refine And.intro ⟨(by omega), (zRb rfl)⟩ ⟨(fun h5_85 => False.elim (by omega)), fun h5_85 => ?_⟩
                refine And.intro (zA_61 hS) ⟨_, (zWi (by omega)), ?_⟩
                refine And.intro (zA_61 hS) (zrd (v := q) hpl1 ?_)
                refine And.intro (zA_61 hS) ⟨_, (zWi (by omega)), ?_⟩
                refine ⟨((4100 - (z + 1)), 0, 0), zlt6 (by omega), [some (zvr (61)), some (zvi (lim)), some (zvi ((0 : Int))), some (zvi ((z + 1)))], ⟨rfl, rfl, rfl, rfl, rfl⟩, (q + 1), 0, q, (z + 1), rfl, rfl, rfl, rfl, rfl, rfl, (by omega), (by omega), (by omega), (by omega), rfl, rfl, (fun h9 => by first | (exfalso; omega) | exact ⟨by omega, by omega, by omega, fun _ => by omega⟩), ?_, (fun c j h0 h1 => (zxcj h0 (zxcj h1 ((fr c j h0 h1).trans rfl))))⟩
                · have hf : f = -1 := by omega
                  subst hf
                  rcases hst with ⟨z0, z⟩ | ⟨z0, z⟩
                  · first
                    | exact Or.inr ⟨rfl, tuV_tq z rfl hi (by omega) (by omega) (by omega) (by omega)⟩
                    | exact Or.inl ⟨rfl, tuV_tn z rfl hi (by omega) (by omega) (by omega) (by omega) (by omega)⟩
                    | exact Or.inl ⟨rfl, tuV_te z rfl hi (by omega) (by omega) (by omega) (by omega) (by omega)⟩
                    | exact Or.inl ⟨rfl, tuV_f1 z rfl hi (by omega) (by omega)⟩
                    | exact Or.inr ⟨rfl, tuV_f1 z rfl hi (by omega) (by omega)⟩
                    | exact Or.inl ⟨rfl, tuV_f2 z rfl hi (by omega) (by omega) (by omega) (by omega) (by omega)⟩
                  · exfalso; omega
            · refine And.intro (zA_61 hS) (Exists.intro _ (And.intro (zinl_ok (zT9_26 1)) (And.intro rfl ?_)))
              refine And.intro (zA_61 hS) (zrd (v := f) hfv ?_)
              refine And.intro ⟨(by omega), (zRb rfl)⟩ ⟨(fun h5_58 => False.elim (by omega)), fun h5_58 => ?_⟩
              refine And.intro (zA_61 hS) ⟨_, sn_K_peek.up (by decide), ?_⟩
              refine ⟨c, n, q, rfl, hS, hR, htx, (by first | exact (zRD_fr hX (fun c j h => ((fr c j (by omega) (by omega)).trans rfl))) | (clear hQ; grind [xu])), (by first | exact hc | (clear hQ; grind [xu])), hpl1, (by omega), ?_⟩
              intro v9_58o p9_58hv p9_58bhv2
              refine And.intro ⟨(by omega), (zRb rfl)⟩ ⟨fun h14_58 => ?_, fun h14_58 => ?_⟩
              · refine And.intro (zA_61 hS) (zrd (v := q) hpl1 ?_)
                refine And.intro (zA_61 hS) (zrd (v := n) ((fr 61 1 (by omega) (by omega)).trans x1) ?_)
                refine And.intro ⟨(by omega), (by omega)⟩ ⟨fun h69 => ?_, fun h69 => ?_⟩
                · refine And.intro (zA_61 hS) (zrd (v := q) hpl1 ?_)
                  refine And.intro (zA_61 hS) (Exists.intro _ (And.intro (zinl_ok (zT9_2 1)) (And.intro rfl ?_)))
                  refine And.intro (zA_61 hS) (zrd (v := f) hfv ?_)
                  refine And.intro ⟨(by omega), (zRb rfl)⟩ ⟨(fun h5_85 => False.elim (by omega)), fun h5_85 => ?_⟩
                  refine And.intro (zA_61 hS) ⟨_, (zWi (by omega)), ?_⟩
                  refine And.intro (zA_61 hS) (zrd (v := q) hpl1 ?_)
                  refine And.intro (zA_61 hS) ⟨_, (zWi (by omega)), ?_⟩
                  refine ⟨((4100 - (z + 1)), 0, 0), zlt6 (by omega), [some (zvr (61)), some (zvi (lim)), some (zvi ((0 : Int))), some (zvi ((z + 1)))], ⟨rfl, rfl, rfl, rfl, rfl⟩, (q + 1), 0, q, (z + 1), rfl, rfl, rfl, rfl, rfl, rfl, (by omega), (by omega), (by omega), (by omega), rfl, rfl, (fun h9 => by first | (exfalso; omega) | exact ⟨by omega, by omega, by omega, fun _ => by omega⟩), ?_, (fun c j h0 h1 => (zxcj h0 (zxcj h1 ((fr c j h0 h1).trans rfl))))⟩
                  · have hf : f = -1 := by omega
                    subst hf
                    rcases hst with ⟨z0, z⟩ | ⟨z0, z⟩
                    · first
                      | exact Or.inr ⟨rfl, tuV_tq z rfl hi (by omega) (by omega) (by omega) (by omega)⟩
                      | exact Or.inl ⟨rfl, tuV_tn z rfl hi (by omega) (by omega) (by omega) (by omega) (by omega)⟩
                      | exact Or.inl ⟨rfl, tuV_te z rfl hi (by omega) (by omega) (by omega) (by omega) (by omega)⟩
                      | exact Or.inl ⟨rfl, tuV_f1 z rfl hi (by omega) (by omega)⟩
                      | exact Or.inr ⟨rfl, tuV_f1 z rfl hi (by omega) (by omega)⟩
                      | exact Or.inl ⟨rfl, tuV_f2 z rfl hi (by omega) (by omega) (by omega) (by omega) (by omega)⟩
                    · exfalso; omega
                · refine And.intro (zA_61 hS) (zrd (v := q) hpl1 ?_)
                  refine And.intro ⟨(by omega), (by omega)⟩ ⟨fun h77 => ?_, (fun h77 => False.elim (by omega))⟩
                  refine And.intro (zA_61 hS) (zrd (v := q) hpl1 ?_)
                  refine And.intro (zA_61 hS) ⟨_, (zWi (by omega)), ?_⟩
                  refine ⟨((4100 - (z + 1)), 0, 0), zlt6 (by omega), [some (zvr (61)), some (zvi (lim)), some (zvi ((0 : Int))), some (zvi ((z + 1)))], ⟨rfl, rfl, rfl, rfl, rfl⟩, (q + 1), 0, f, (z + 1), rfl, rfl, rfl, rfl, rfl, rfl, (by omega), (by omega), (by omega), (by omega), hfv, rfl, (fun h9 => by first | (exfalso; omega) | exact ⟨by omega, by omega, by omega, fun _ => by omega⟩), ?_, (fun c j h0 h1 => (zxcj h0 ((fr c j h0 h1).trans rfl)))⟩
                  · have hf : f = -1 := by omega
                    subst hf
                    rcases hst with ⟨z0, z⟩ | ⟨z0, z⟩
                    · first
                      | exact Or.inr ⟨rfl, tuV_tq z rfl hi (by omega) (by omega) (by omega) (by omega)⟩
                      | exact Or.inl ⟨rfl, tuV_tn z rfl hi (by omega) (by omega) (by omega) (by omega) (by omega)⟩
                      | exact Or.inl ⟨rfl, tuV_te z rfl hi (by omega) (by omega) (by omega) (by omega) (by omega)⟩
                      | exact Or.inl ⟨rfl, tuV_f1 z rfl hi (by omega) (by omega)⟩
                      | exact Or.inr ⟨rfl, tuV_f1 z rfl hi (by omega) (by omega)⟩
                      | exact Or.inl ⟨rfl, tuV_f2 z rfl hi (by omega) (by omega) (by omega) (by omega) (by omega)⟩
                    · exfalso; omega
              · refine And.intro (zA_61 hS) (zrd (v := q) hpl1 ?_)
                refine And.intro (zA_61 hS) ⟨_, (zWi (by omega)), ?_⟩
                refine And.intro (zA_61 hS) ⟨_, sn_K_peek.up (by decide), ?_⟩
                refine ⟨c, n, (q + 1), rfl, hS, hR, htx, (by first | exact (zRD_fr hX (fun c j h => (zxcj (by omega) ((fr c j (by omega) (by omega)).trans rfl)))) | (clear hQ; grind [xu])), (by first | exact hc | (clear hQ; grind [xu])), rfl, (by omega), ?_⟩
                intro v28_58o p28_58hv p28_58bhv2
                refine And.intro ⟨(by omega), (zRb rfl)⟩ ⟨fun h33_58 => ?_, fun h33_58 => ?_⟩
                · refine And.intro (zA_61 hS) (zrd (v := (q + 1)) rfl ?_)
                  refine And.intro (zA_61 hS) (zrd (v := n) ((fr 61 1 (by omega) (by omega)).trans x1) ?_)
                  refine And.intro ⟨(by omega), (by omega)⟩ ⟨fun h69 => ?_, fun h69 => ?_⟩
                  · refine And.intro (zA_61 hS) (zrd (v := (q + 1)) rfl ?_)
                    refine And.intro (zA_61 hS) (Exists.intro _ (And.intro (zinl_ok (zT9_2 1)) (And.intro rfl ?_)))
                    refine And.intro (zA_61 hS) (zrd (v := f) hfv ?_)
                    refine And.intro ⟨(by omega), (zRb rfl)⟩ ⟨(fun h5_85 => False.elim (by omega)), fun h5_85 => ?_⟩
                    refine And.intro (zA_61 hS) ⟨_, (zWi (by omega)), ?_⟩
                    refine And.intro (zA_61 hS) (zrd (v := (q + 1)) rfl ?_)
                    refine And.intro (zA_61 hS) ⟨_, (zWi (by omega)), ?_⟩
                    refine ⟨((4100 - (z + 1)), 0, 0), zlt6 (by omega), [some (zvr (61)), some (zvi (lim)), some (zvi ((0 : Int))), some (zvi ((z + 1)))], ⟨rfl, rfl, rfl, rfl, rfl⟩, ((q + 1) + 1), 0, (q + 1), (z + 1), rfl, rfl, rfl, rfl, rfl, rfl, (by omega), (by omega), (by omega), (by omega), rfl, rfl, (fun h9 => by first | (exfalso; omega) | exact ⟨by omega, by omega, by omega, fun _ => by omega⟩), ?_, (fun c j h0 h1 => (zxcj h0 (zxcj h1 (zxcj h0 ((fr c j h0 h1).trans rfl)))))⟩
                    · have hf : f = -1 := by omega
                      subst hf
                      rcases hst with ⟨z0, z⟩ | ⟨z0, z⟩
                      · first
                        | exact Or.inr ⟨rfl, tuV_tq z rfl hi (by omega) (by omega) (by omega) (by omega)⟩
                        | exact Or.inl ⟨rfl, tuV_tn z rfl hi (by omega) (by omega) (by omega) (by omega) (by omega)⟩
                        | exact Or.inl ⟨rfl, tuV_te z rfl hi (by omega) (by omega) (by omega) (by omega) (by omega)⟩
                        | exact Or.inl ⟨rfl, tuV_f1 z rfl hi (by omega) (by omega)⟩
                        | exact Or.inr ⟨rfl, tuV_f1 z rfl hi (by omega) (by omega)⟩
                        | exact Or.inl ⟨rfl, tuV_f2 z rfl hi (by omega) (by omega) (by omega) (by omega) (by omega)⟩
                      · exfalso; omega
                  · refine And.intro (zA_61 hS) (zrd (v := (q + 1)) rfl ?_)
                    refine And.intro ⟨(by omega), (by omega)⟩ ⟨fun h77 => ?_, fun h77 => ?_⟩
                    · refine And.intro (zA_61 hS) (zrd (v := (q + 1)) rfl ?_)
                      refine And.intro (zA_61 hS) ⟨_, (zWi (by omega)), ?_⟩
                      refine ⟨((4100 - (z + 1)), 0, 0), zlt6 (by omega), [some (zvr (61)), some (zvi (lim)), some (zvi ((0 : Int))), some (zvi ((z + 1)))], ⟨rfl, rfl, rfl, rfl, rfl⟩, ((q + 1) + 1), 0, f, (z + 1), rfl, rfl, rfl, rfl, rfl, rfl, (by omega), (by omega), (by omega), (by omega), hfv, rfl, (fun h9 => by first | (exfalso; omega) | exact ⟨by omega, by omega, by omega, fun _ => by omega⟩), ?_, (fun c j h0 h1 => (zxcj h0 (zxcj h0 ((fr c j h0 h1).trans rfl))))⟩
                      · have hf : f = -1 := by omega
                        subst hf
                        rcases hst with ⟨z0, z⟩ | ⟨z0, z⟩
                        · first
                          | exact Or.inr ⟨rfl, tuV_tq z rfl hi (by omega) (by omega) (by omega) (by omega)⟩
                          | exact Or.inl ⟨rfl, tuV_tn z rfl hi (by omega) (by omega) (by omega) (by omega) (by omega)⟩
                          | exact Or.inl ⟨rfl, tuV_te z rfl hi (by omega) (by omega) (by omega) (by omega) (by omega)⟩
                          | exact Or.inl ⟨rfl, tuV_f1 z rfl hi (by omega) (by omega)⟩
                          | exact Or.inr ⟨rfl, tuV_f1 z rfl hi (by omega) (by omega)⟩
                          | exact Or.inl ⟨rfl, tuV_f2 z rfl hi (by omega) (by omega) (by omega) (by omega) (by omega)⟩
                        · exfalso; omega
                    · refine And.intro (zA_61 hS) (zrd (v := (q + 1)) rfl ?_)
                      refine And.intro (zA_61 hS) (Exists.intro _ (And.intro (zinl_ok (zT9_2 1)) (And.intro rfl ?_)))
                      refine And.intro (zA_61 hS) (zrd (v := f) hfv ?_)
                      refine And.intro ⟨(by omega), (zRb rfl)⟩ ⟨(fun h5_85 => False.elim (by omega)), fun h5_85 => ?_⟩
                      refine And.intro (zA_61 hS) ⟨_, (zWi (by omega)), ?_⟩
                      refine And.intro (zA_61 hS) (zrd (v := (q + 1)) rfl ?_)
                      refine And.intro (zA_61 hS) ⟨_, (zWi (by omega)), ?_⟩
                      refine ⟨((4100 - (z + 1)), 0, 0), zlt6 (by omega), [some (zvr (61)), some (zvi (lim)), some (zvi ((0 : Int))), some (zvi ((z + 1)))], ⟨rfl, rfl, rfl, rfl, rfl⟩, ((q + 1) + 1), 0, (q + 1), (z + 1), rfl, rfl, rfl, rfl, rfl, rfl, (by omega), (by omega), (by omega), (by omega), rfl, rfl, (fun h9 => by first | (exfalso; omega) | exact ⟨by omega, by omega, by omega, fun _ => by omega⟩), ?_, (fun c j h0 h1 => (zxcj h0 (zxcj h1 (zxcj h0 ((fr c j h0 h1).trans rfl)))))⟩
                      · have hf : f = -1 := by omega
                        subst hf
                        rcases hst with ⟨z0, z⟩ | ⟨z0, z⟩
                        · first
                          | exact Or.inr ⟨rfl, tuV_tq z rfl hi (by omega) (by omega) (by omega) (by omega)⟩
                          | exact Or.inl ⟨rfl, tuV_tn z rfl hi (by omega) (by omega) (by omega) (by omega) (by omega)⟩
                          | exact Or.inl ⟨rfl, tuV_te z rfl hi (by omega) (by omega) (by omega) (by omega) (by omega)⟩
                          | exact Or.inl ⟨rfl, tuV_f1 z rfl hi (by omega) (by omega)⟩
                          | exact Or.inr ⟨rfl, tuV_f1 z rfl hi (by omega) (by omega)⟩
                          | exact Or.inl ⟨rfl, tuV_f2 z rfl hi (by omega) (by omega) (by omega) (by omega) (by omega)⟩
                        · exfalso; omega
                · refine And.intro (zA_61 hS) ⟨_, sn_K_peek.up (by decide), ?_⟩
                  refine ⟨c, n, (q + 1), rfl, hS, hR, htx, (by first | exact (zRD_fr hX (fun c j h => (zxcj (by omega) ((fr c j (by omega) (by omega)).trans rfl)))) | (clear hQ; grind [xu])), (by first | exact hc | (clear hQ; grind [xu])), rfl, (by omega), ?_⟩
                  intro v37_58o p37_58hv p37_58bhv2
                  refine And.intro ⟨(by omega), (zRb rfl)⟩ ⟨fun h42_58 => ?_, fun h42_58 => ?_⟩
                  · refine And.intro (zA_61 hS) (zrd (v := (q + 1)) rfl ?_)
                    refine And.intro (zA_61 hS) (zrd (v := n) ((fr 61 1 (by omega) (by omega)).trans x1) ?_)
                    refine And.intro ⟨(by omega), (by omega)⟩ ⟨fun h69 => ?_, fun h69 => ?_⟩
                    · refine And.intro (zA_61 hS) (zrd (v := (q + 1)) rfl ?_)
                      refine And.intro (zA_61 hS) (Exists.intro _ (And.intro (zinl_ok (zT9_2 1)) (And.intro rfl ?_)))
                      refine And.intro (zA_61 hS) (zrd (v := f) hfv ?_)
                      refine And.intro ⟨(by omega), (zRb rfl)⟩ ⟨(fun h5_85 => False.elim (by omega)), fun h5_85 => ?_⟩
                      refine And.intro (zA_61 hS) ⟨_, (zWi (by omega)), ?_⟩
                      refine And.intro (zA_61 hS) (zrd (v := (q + 1)) rfl ?_)
                      refine And.intro (zA_61 hS) ⟨_, (zWi (by omega)), ?_⟩
                      refine ⟨((4100 - (z + 1)), 0, 0), zlt6 (by omega), [some (zvr (61)), some (zvi (lim)), some (zvi ((0 : Int))), some (zvi ((z + 1)))], ⟨rfl, rfl, rfl, rfl, rfl⟩, ((q + 1) + 1), 0, (q + 1), (z + 1), rfl, rfl, rfl, rfl, rfl, rfl, (by omega), (by omega), (by omega), (by omega), rfl, rfl, (fun h9 => by first | (exfalso; omega) | exact ⟨by omega, by omega, by omega, fun _ => by omega⟩), ?_, (fun c j h0 h1 => (zxcj h0 (zxcj h1 (zxcj h0 ((fr c j h0 h1).trans rfl)))))⟩
                      · have hf : f = -1 := by omega
                        subst hf
                        rcases hst with ⟨z0, z⟩ | ⟨z0, z⟩
                        · first
                          | exact Or.inr ⟨rfl, tuV_tq z rfl hi (by omega) (by omega) (by omega) (by omega)⟩
                          | exact Or.inl ⟨rfl, tuV_tn z rfl hi (by omega) (by omega) (by omega) (by omega) (by omega)⟩
                          | exact Or.inl ⟨rfl, tuV_te z rfl hi (by omega) (by omega) (by omega) (by omega) (by omega)⟩
                          | exact Or.inl ⟨rfl, tuV_f1 z rfl hi (by omega) (by omega)⟩
                          | exact Or.inr ⟨rfl, tuV_f1 z rfl hi (by omega) (by omega)⟩
                          | exact Or.inl ⟨rfl, tuV_f2 z rfl hi (by omega) (by omega) (by omega) (by omega) (by omega)⟩
                        · exfalso; omega
                    · refine And.intro (zA_61 hS) (zrd (v := (q + 1)) rfl ?_)
                      refine And.intro ⟨(by omega), (by omega)⟩ ⟨fun h77 => ?_, fun h77 => ?_⟩
                      · refine And.intro (zA_61 hS) (zrd (v := (q + 1)) rfl ?_)
                        refine And.intro (zA_61 hS) ⟨_, (zWi (by omega)), ?_⟩
                        refine ⟨((4100 - (z + 1)), 0, 0), zlt6 (by omega), [some (zvr (61)), some (zvi (lim)), some (zvi ((0 : Int))), some (zvi ((z + 1)))], ⟨rfl, rfl, rfl, rfl, rfl⟩, ((q + 1) + 1), 0, f, (z + 1), rfl, rfl, rfl, rfl, rfl, rfl, (by omega), (by omega), (by omega), (by omega), hfv, rfl, (fun h9 => by first | (exfalso; omega) | exact ⟨by omega, by omega, by omega, fun _ => by omega⟩), ?_, (fun c j h0 h1 => (zxcj h0 (zxcj h0 ((fr c j h0 h1).trans rfl))))⟩
                        · have hf : f = -1 := by omega
                          subst hf
                          rcases hst with ⟨z0, z⟩ | ⟨z0, z⟩
                          · first
                            | exact Or.inr ⟨rfl, tuV_tq z rfl hi (by omega) (by omega) (by omega) (by omega)⟩
                            | exact Or.inl ⟨rfl, tuV_tn z rfl hi (by omega) (by omega) (by omega) (by omega) (by omega)⟩
                            | exact Or.inl ⟨rfl, tuV_te z rfl hi (by omega) (by omega) (by omega) (by omega) (by omega)⟩
                            | exact Or.inl ⟨rfl, tuV_f1 z rfl hi (by omega) (by omega)⟩
                            | exact Or.inr ⟨rfl, tuV_f1 z rfl hi (by omega) (by omega)⟩
                            | exact Or.inl ⟨rfl, tuV_f2 z rfl hi (by omega) (by omega) (by omega) (by omega) (by omega)⟩
                          · exfalso; omega
                      · refine And.intro (zA_61 hS) (zrd (v := (q + 1)) rfl ?_)
                        refine And.intro (zA_61 hS) (Exists.intro _ (And.intro (zinl_ok (zT9_2 1)) (And.intro rfl ?_)))
                        refine And.intro (zA_61 hS) (zrd (v := f) hfv ?_)
                        refine And.intro ⟨(by omega), (zRb rfl)⟩ ⟨(fun h5_85 => False.elim (by omega)), fun h5_85 => ?_⟩
                        refine And.intro (zA_61 hS) ⟨_, (zWi (by omega)), ?_⟩
                        refine And.intro (zA_61 hS) (zrd (v := (q + 1)) rfl ?_)
                        refine And.intro (zA_61 hS) ⟨_, (zWi (by omega)), ?_⟩
                        refine ⟨((4100 - (z + 1)), 0, 0), zlt6 (by omega), [some (zvr (61)), some (zvi (lim)), some (zvi ((0 : Int))), some (zvi ((z + 1)))], ⟨rfl, rfl, rfl, rfl, rfl⟩, ((q + 1) + 1), 0, (q + 1), (z + 1), rfl, rfl, rfl, rfl, rfl, rfl, (by omega), (by omega), (by omega), (by omega), rfl, rfl, (fun h9 => by first | (exfalso; omega) | exact ⟨by omega, by omega, by omega, fun _ => by omega⟩), ?_, (fun c j h0 h1 => (zxcj h0 (zxcj h1 (zxcj h0 ((fr c j h0 h1).trans rfl)))))⟩
                        · have hf : f = -1 := by omega
                          subst hf
                          rcases hst with ⟨z0, z⟩ | ⟨z0, z⟩
                          · first
                            | exact Or.inr ⟨rfl, tuV_tq z rfl hi (by omega) (by omega) (by omega) (by omega)⟩
                            | exact Or.inl ⟨rfl, tuV_tn z rfl hi (by omega) (by omega) (by omega) (by omega) (by omega)⟩
                            | exact Or.inl ⟨rfl, tuV_te z rfl hi (by omega) (by omega) (by omega) (by omega) (by omega)⟩
                            | exact Or.inl ⟨rfl, tuV_f1 z rfl hi (by omega) (by omega)⟩
                            | exact Or.inr ⟨rfl, tuV_f1 z rfl hi (by omega) (by omega)⟩
                            | exact Or.inl ⟨rfl, tuV_f2 z rfl hi (by omega) (by omega) (by omega) (by omega) (by omega)⟩
                          · exfalso; omega
                  · refine And.intro (zA_61 hS) (zrd (v := (q + 1)) rfl ?_)
                    refine And.intro (zA_61 hS) (Exists.intro _ (And.intro (zinl_ok (zT9_2 0)) (And.intro rfl ?_)))
                    refine And.intro (zA_61 hS) (zrd (v := f) hfv ?_)
                    refine And.intro ⟨(by omega), (zRb rfl)⟩ ⟨(fun h5_58_50 => False.elim (by omega)), fun h5_58_50 => ?_⟩
                    refine And.intro (zA_61 hS) ⟨_, (zWi (by omega)), ?_⟩
                    refine And.intro (zA_61 hS) (zrd (v := (q + 1)) rfl ?_)
                    refine And.intro (zA_61 hS) (zrd (v := n) ((fr 61 1 (by omega) (by omega)).trans x1) ?_)
                    refine And.intro ⟨(by omega), (by omega)⟩ ⟨fun h69 => ?_, fun h69 => ?_⟩
                    · refine And.intro (zA_61 hS) (zrd (v := (q + 1)) rfl ?_)
                      refine And.intro (zA_61 hS) (Exists.intro _ (And.intro (zinl_ok (zT9_2 1)) (And.intro rfl ?_)))
                      refine And.intro (zA_61 hS) (zrd (v := (q + 1)) rfl ?_)
                      refine And.intro ⟨(by omega), (zRb rfl)⟩ ⟨fun h5_85 => ?_, (fun h5_85 => False.elim (by omega))⟩
                      refine And.intro (zA_61 hS) (zrd (v := (q + 1)) rfl ?_)
                      refine And.intro (zA_61 hS) ⟨_, (zWi (by omega)), ?_⟩
                      refine ⟨((4100 - (z + 1)), 0, 0), zlt6 (by omega), [some (zvr (61)), some (zvi (lim)), some (zvi ((0 : Int))), some (zvi ((z + 1)))], ⟨rfl, rfl, rfl, rfl, rfl⟩, ((q + 1) + 1), 0, (q + 1), (z + 1), rfl, rfl, rfl, rfl, rfl, rfl, (by omega), (by omega), (by omega), (by omega), rfl, rfl, (fun h9 => by first | (exfalso; omega) | exact ⟨by omega, by omega, by omega, fun _ => by omega⟩), ?_, (fun c j h0 h1 => (zxcj h0 (zxcj h1 (zxcj h0 ((fr c j h0 h1).trans rfl)))))⟩
                      · have hf : f = -1 := by omega
                        subst hf
                        rcases hst with ⟨z0, z⟩ | ⟨z0, z⟩
                        · first
                          | exact Or.inr ⟨rfl, tuV_tq z rfl hi (by omega) (by omega) (by omega) (by omega)⟩
                          | exact Or.inl ⟨rfl, tuV_tn z rfl hi (by omega) (by omega) (by omega) (by omega) (by omega)⟩
                          | exact Or.inl ⟨rfl, tuV_te z rfl hi (by omega) (by omega) (by omega) (by omega) (by omega)⟩
                          | exact Or.inl ⟨rfl, tuV_f1 z rfl hi (by omega) (by omega)⟩
                          | exact Or.inr ⟨rfl, tuV_f1 z rfl hi (by omega) (by omega)⟩
                          | exact Or.inl ⟨rfl, tuV_f2 z rfl hi (by omega) (by omega) (by omega) (by omega) (by omega)⟩
                        · exfalso; omega
                    · refine And.intro (zA_61 hS) (zrd (v := (q + 1)) rfl ?_)
                      refine And.intro ⟨(by omega), (by omega)⟩ ⟨fun h77 => ?_, fun h77 => ?_⟩
                      · refine And.intro (zA_61 hS) (zrd (v := (q + 1)) rfl ?_)
                        refine And.intro (zA_61 hS) ⟨_, (zWi (by omega)), ?_⟩
                        refine ⟨((4100 - (z + 1)), 0, 0), zlt6 (by omega), [some (zvr (61)), some (zvi (lim)), some (zvi ((0 : Int))), some (zvi ((z + 1)))], ⟨rfl, rfl, rfl, rfl, rfl⟩, ((q + 1) + 1), 0, (q + 1), (z + 1), rfl, rfl, rfl, rfl, rfl, rfl, (by omega), (by omega), (by omega), (by omega), rfl, rfl, (fun h9 => by first | (exfalso; omega) | exact ⟨by omega, by omega, by omega, fun _ => by omega⟩), ?_, (fun c j h0 h1 => (zxcj h0 (zxcj h1 (zxcj h0 ((fr c j h0 h1).trans rfl)))))⟩
                        · have hf : f = -1 := by omega
                          subst hf
                          rcases hst with ⟨z0, z⟩ | ⟨z0, z⟩
                          · first
                            | exact Or.inr ⟨rfl, tuV_tq z rfl hi (by omega) (by omega) (by omega) (by omega)⟩
                            | exact Or.inl ⟨rfl, tuV_tn z rfl hi (by omega) (by omega) (by omega) (by omega) (by omega)⟩
                            | exact Or.inl ⟨rfl, tuV_te z rfl hi (by omega) (by omega) (by omega) (by omega) (by omega)⟩
                            | exact Or.inl ⟨rfl, tuV_f1 z rfl hi (by omega) (by omega)⟩
                            | exact Or.inr ⟨rfl, tuV_f1 z rfl hi (by omega) (by omega)⟩
                            | exact Or.inl ⟨rfl, tuV_f2 z rfl hi (by omega) (by omega) (by omega) (by omega) (by omega)⟩
                          · exfalso; omega
                      · refine And.intro (zA_61 hS) (zrd (v := (q + 1)) rfl ?_)
                        refine And.intro (zA_61 hS) (Exists.intro _ (And.intro (zinl_ok (zT9_2 1)) (And.intro rfl ?_)))
                        refine And.intro (zA_61 hS) (zrd (v := (q + 1)) rfl ?_)
                        refine And.intro ⟨(by omega), (zRb rfl)⟩ ⟨fun h5_85 => ?_, (fun h5_85 => False.elim (by omega))⟩
                        refine And.intro (zA_61 hS) (zrd (v := (q + 1)) rfl ?_)
                        refine And.intro (zA_61 hS) ⟨_, (zWi (by omega)), ?_⟩
                        refine ⟨((4100 - (z + 1)), 0, 0), zlt6 (by omega), [some (zvr (61)), some (zvi (lim)), some (zvi ((0 : Int))), some (zvi ((z + 1)))], ⟨rfl, rfl, rfl, rfl, rfl⟩, ((q + 1) + 1), 0, (q + 1), (z + 1), rfl, rfl, rfl, rfl, rfl, rfl, (by omega), (by omega), (by omega), (by omega), rfl, rfl, (fun h9 => by first | (exfalso; omega) | exact ⟨by omega, by omega, by omega, fun _ => by omega⟩), ?_, (fun c j h0 h1 => (zxcj h0 (zxcj h1 (zxcj h0 ((fr c j h0 h1).trans rfl)))))⟩
                        · have hf : f = -1 := by omega
                          subst hf
                          rcases hst with ⟨z0, z⟩ | ⟨z0, z⟩
                          · first
                            | exact Or.inr ⟨rfl, tuV_tq z rfl hi (by omega) (by omega) (by omega) (by omega)⟩
                            | exact Or.inl ⟨rfl, tuV_tn z rfl hi (by omega) (by omega) (by omega) (by omega) (by omega)⟩
                            | exact Or.inl ⟨rfl, tuV_te z rfl hi (by omega) (by omega) (by omega) (by omega) (by omega)⟩
                            | exact Or.inl ⟨rfl, tuV_f1 z rfl hi (by omega) (by omega)⟩
                            | exact Or.inr ⟨rfl, tuV_f1 z rfl hi (by omega) (by omega)⟩
                            | exact Or.inl ⟨rfl, tuV_f2 z rfl hi (by omega) (by omega) (by omega) (by omega) (by omega)⟩
                          · exfalso; omega
          · refine And.intro (zA_61 hS) (zrd (v := q) hpl1 ?_)
            refine And.intro ⟨(by omega), (by omega)⟩ ⟨fun h54 => ?_, fun h54 => ?_⟩
            · refine And.intro (zA_61 hS) (zrd (v := q) hpl1 ?_)
              refine And.intro (zA_61 hS) (zrd (v := n) ((fr 61 1 (by omega) (by omega)).trans x1) ?_)
              refine And.intro ⟨(by omega), (by omega)⟩ ⟨fun h69 => ?_, fun h69 => ?_⟩
              · refine And.intro (zA_61 hS) (zrd (v := q) hpl1 ?_)
                refine And.intro (zA_61 hS) (Exists.intro _ (And.intro (zinl_ok (zT9_2 1)) (And.intro rfl ?_)))
                refine And.intro (zA_61 hS) (zrd (v := f) hfv ?_)
                refine And.intro ⟨(by omega), (zRb rfl)⟩ ⟨(fun h5_85 => False.elim (by omega)), fun h5_85 => ?_⟩
                refine And.intro (zA_61 hS) ⟨_, (zWi (by omega)), ?_⟩
                refine And.intro (zA_61 hS) (zrd (v := q) hpl1 ?_)
                refine And.intro (zA_61 hS) ⟨_, (zWi (by omega)), ?_⟩
                refine ⟨((4100 - (z + 1)), 0, 0), zlt6 (by omega), [some (zvr (61)), some (zvi (lim)), some (zvi ((1 : Int))), some (zvi ((z + 1)))], ⟨rfl, rfl, rfl, rfl, rfl⟩, (q + 1), 1, q, (z + 1), rfl, rfl, rfl, rfl, rfl, rfl, (by omega), (by omega), (by omega), (by omega), rfl, rfl, (fun h9 => by first | (exfalso; omega) | exact ⟨by omega, by omega, by omega, fun _ => by omega⟩), ?_, (fun c j h0 h1 => (zxcj h0 (zxcj h1 ((fr c j h0 h1).trans rfl))))⟩
                · have hf : f = -1 := by omega
                  subst hf
                  rcases hst with ⟨z0, z⟩ | ⟨z0, z⟩
                  · first
                    | exact Or.inr ⟨rfl, tuV_tq z rfl hi (by omega) (by omega) (by omega) (by omega)⟩
                    | exact Or.inl ⟨rfl, tuV_tn z rfl hi (by omega) (by omega) (by omega) (by omega) (by omega)⟩
                    | exact Or.inl ⟨rfl, tuV_te z rfl hi (by omega) (by omega) (by omega) (by omega) (by omega)⟩
                    | exact Or.inl ⟨rfl, tuV_f1 z rfl hi (by omega) (by omega)⟩
                    | exact Or.inr ⟨rfl, tuV_f1 z rfl hi (by omega) (by omega)⟩
                    | exact Or.inl ⟨rfl, tuV_f2 z rfl hi (by omega) (by omega) (by omega) (by omega) (by omega)⟩
                  · exfalso; omega
              · refine And.intro (zA_61 hS) (zrd (v := q) hpl1 ?_)
                refine And.intro ⟨(by omega), (by omega)⟩ ⟨(fun h77 => False.elim (by omega)), fun h77 => ?_⟩
                refine And.intro (zA_61 hS) (zrd (v := q) hpl1 ?_)
                refine And.intro (zA_61 hS) (Exists.intro _ (And.intro (zinl_ok (zT9_2 1)) (And.intro rfl ?_)))
                refine And.intro (zA_61 hS) (zrd (v := f) hfv ?_)
                refine And.intro ⟨(by omega), (zRb rfl)⟩ ⟨(fun h5_85 => False.elim (by omega)), fun h5_85 => ?_⟩
                refine And.intro (zA_61 hS) ⟨_, (zWi (by omega)), ?_⟩
                refine And.intro (zA_61 hS) (zrd (v := q) hpl1 ?_)
                refine And.intro (zA_61 hS) ⟨_, (zWi (by omega)), ?_⟩
                refine ⟨((4100 - (z + 1)), 0, 0), zlt6 (by omega), [some (zvr (61)), some (zvi (lim)), some (zvi ((1 : Int))), some (zvi ((z + 1)))], ⟨rfl, rfl, rfl, rfl, rfl⟩, (q + 1), 1, q, (z + 1), rfl, rfl, rfl, rfl, rfl, rfl, (by omega), (by omega), (by omega), (by omega), rfl, rfl, (fun h9 => by first | (exfalso; omega) | exact ⟨by omega, by omega, by omega, fun _ => by omega⟩), ?_, (fun c j h0 h1 => (zxcj h0 (zxcj h1 ((fr c j h0 h1).trans rfl))))⟩
                · have hf : f = -1 := by omega
                  subst hf
                  rcases hst with ⟨z0, z⟩ | ⟨z0, z⟩
                  · first
                    | exact Or.inr ⟨rfl, tuV_tq z rfl hi (by omega) (by omega) (by omega) (by omega)⟩
                    | exact Or.inl ⟨rfl, tuV_tn z rfl hi (by omega) (by omega) (by omega) (by omega) (by omega)⟩
                    | exact Or.inl ⟨rfl, tuV_te z rfl hi (by omega) (by omega) (by omega) (by omega) (by omega)⟩
                    | exact Or.inl ⟨rfl, tuV_f1 z rfl hi (by omega) (by omega)⟩
                    | exact Or.inr ⟨rfl, tuV_f1 z rfl hi (by omega) (by omega)⟩
                    | exact Or.inl ⟨rfl, tuV_f2 z rfl hi (by omega) (by omega) (by omega) (by omega) (by omega)⟩
                  · exfalso; omega
            · refine And.intro (zA_61 hS) (Exists.intro _ (And.intro (zinl_ok (zT9_26 1)) (And.intro rfl ?_)))
              refine And.intro (zA_61 hS) (zrd (v := f) hfv ?_)
              refine And.intro ⟨(by omega), (zRb rfl)⟩ ⟨(fun h5_58 => False.elim (by omega)), fun h5_58 => ?_⟩
              refine And.intro (zA_61 hS) ⟨_, sn_K_peek.up (by decide), ?_⟩
              refine ⟨c, n, q, rfl, hS, hR, htx, (by first | exact (zRD_fr hX (fun c j h => ((fr c j (by omega) (by omega)).trans rfl))) | (clear hQ; grind [xu])), (by first | exact hc | (clear hQ; grind [xu])), hpl1, (by omega), ?_⟩
              intro v9_58o p9_58hv p9_58bhv2
              refine And.intro ⟨(by omega), (zRb rfl)⟩ ⟨fun h14_58 => ?_, (fun h14_58 => False.elim (by omega))⟩
              refine And.intro (zA_61 hS) (zrd (v := q) hpl1 ?_)
              refine And.intro (zA_61 hS) (zrd (v := n) ((fr 61 1 (by omega) (by omega)).trans x1) ?_)
              refine And.intro ⟨(by omega), (by omega)⟩ ⟨fun h69 => ?_, fun h69 => ?_⟩
              · refine And.intro (zA_61 hS) (zrd (v := q) hpl1 ?_)
                refine And.intro (zA_61 hS) (Exists.intro _ (And.intro (zinl_ok (zT9_2 1)) (And.intro rfl ?_)))
                refine And.intro (zA_61 hS) (zrd (v := f) hfv ?_)
                refine And.intro ⟨(by omega), (zRb rfl)⟩ ⟨(fun h5_85 => False.elim (by omega)), fun h5_85 => ?_⟩
                refine And.intro (zA_61 hS) ⟨_, (zWi (by omega)), ?_⟩
                refine And.intro (zA_61 hS) (zrd (v := q) hpl1 ?_)
                refine And.intro (zA_61 hS) ⟨_, (zWi (by omega)), ?_⟩
                refine ⟨((4100 - (z + 1)), 0, 0), zlt6 (by omega), [some (zvr (61)), some (zvi (lim)), some (zvi ((1 : Int))), some (zvi ((z + 1)))], ⟨rfl, rfl, rfl, rfl, rfl⟩, (q + 1), 1, q, (z + 1), rfl, rfl, rfl, rfl, rfl, rfl, (by omega), (by omega), (by omega), (by omega), rfl, rfl, (fun h9 => by first | (exfalso; omega) | exact ⟨by omega, by omega, by omega, fun _ => by omega⟩), ?_, (fun c j h0 h1 => (zxcj h0 (zxcj h1 ((fr c j h0 h1).trans rfl))))⟩
                · have hf : f = -1 := by omega
                  subst hf
                  rcases hst with ⟨z0, z⟩ | ⟨z0, z⟩
                  · first
                    | exact Or.inr ⟨rfl, tuV_tq z rfl hi (by omega) (by omega) (by omega) (by omega)⟩
                    | exact Or.inl ⟨rfl, tuV_tn z rfl hi (by omega) (by omega) (by omega) (by omega) (by omega)⟩
                    | exact Or.inl ⟨rfl, tuV_te z rfl hi (by omega) (by omega) (by omega) (by omega) (by omega)⟩
                    | exact Or.inl ⟨rfl, tuV_f1 z rfl hi (by omega) (by omega)⟩
                    | exact Or.inr ⟨rfl, tuV_f1 z rfl hi (by omega) (by omega)⟩
                    | exact Or.inl ⟨rfl, tuV_f2 z rfl hi (by omega) (by omega) (by omega) (by omega) (by omega)⟩
                  · exfalso; omega
              · refine And.intro (zA_61 hS) (zrd (v := q) hpl1 ?_)
                refine And.intro ⟨(by omega), (by omega)⟩ ⟨fun h77 => ?_, (fun h77 => False.elim (by omega))⟩
                refine And.intro (zA_61 hS) (zrd (v := q) hpl1 ?_)
                refine And.intro (zA_61 hS) ⟨_, (zWi (by omega)), ?_⟩
                refine ⟨((4100 - (z + 1)), 0, 0), zlt6 (by omega), [some (zvr (61)), some (zvi (lim)), some (zvi ((1 : Int))), some (zvi ((z + 1)))], ⟨rfl, rfl, rfl, rfl, rfl⟩, (q + 1), 1, f, (z + 1), rfl, rfl, rfl, rfl, rfl, rfl, (by omega), (by omega), (by omega), (by omega), hfv, rfl, (fun h9 => by first | (exfalso; omega) | exact ⟨by omega, by omega, by omega, fun _ => by omega⟩), ?_, (fun c j h0 h1 => (zxcj h0 ((fr c j h0 h1).trans rfl)))⟩
                · have hf : f = -1 := by omega
                  subst hf
                  rcases hst with ⟨z0, z⟩ | ⟨z0, z⟩
                  · first
                    | exact Or.inr ⟨rfl, tuV_tq z rfl hi (by omega) (by omega) (by omega) (by omega)⟩
                    | exact Or.inl ⟨rfl, tuV_tn z rfl hi (by omega) (by omega) (by omega) (by omega) (by omega)⟩
                    | exact Or.inl ⟨rfl, tuV_te z rfl hi (by omega) (by omega) (by omega) (by omega) (by omega)⟩
                    | exact Or.inl ⟨rfl, tuV_f1 z rfl hi (by omega) (by omega)⟩
                    | exact Or.inr ⟨rfl, tuV_f1 z rfl hi (by omega) (by omega)⟩
                    | exact Or.inl ⟨rfl, tuV_f2 z rfl hi (by omega) (by omega) (by omega) (by omega) (by omega)⟩
                  · exfalso; omega)
def T_K_kpl : ZT := fun args I L R S Q => ∃ (c : Nat → Int) (n : Nat) (lim : Nat) (ar : Nat) (q0 : Nat) (k : Nat) (a9 : Int) (j : Int) (j_ : Nat) (op : Int) (op_ : Nat) (cc : Nat) (kc : Nat), args = [zvr 61, zvi j, zvi op] ∧ (zSh S) ∧ (zRs R) ∧ (R 61 0 = some 42) ∧ (zRD c n I) ∧ (tOk c n) ∧ (I 61 2 = q0) ∧ (q0 ≤ n) ∧ (op = op_ ∧ op_ ≤ q0) ∧ (R 61 7 = some k) ∧ (zDy zT2 zF2 k R S) ∧ (43 ≤ k ∧ k ≤ 52) ∧ (I k 0 = a9) ∧ (0 ≤ a9 ∧ a9 ≤ 200) ∧ (j = j_ ∧ j_ < a9) ∧ (I 61 4 = ar + 1) ∧ (ar ≤ 99) ∧ (I k 2 = kc) ∧ (kc ≤ 2000) ∧ (lim + kc = op_ + 2000) ∧ (I k 10 = cc) ∧ (cc ≤ op_) ∧ (I (k + 6) (2 * j_) = 0) ∧ (I 61 3 = -1) ∧ ∀ (I' : ZI) (pl : Int), (I' 61 3 = tuX c n lim ar q0) → (tuX c n lim ar q0 = -1 → I' 61 2 = tuE c n lim ar q0 ∧ I' 61 4 = ar ∧ I' k 2 = kc + (tuE c n lim ar q0 - op_ : Nat) ∧ I' k 10 = cc + (tuE c n lim ar q0 - op_ : Nat) ∧ I' (k + 5) (2 * j_) = cc ∧ I' (k + 6) (2 * j_) = (tuE c n lim ar q0 - op_ : Nat) ∧ ∀ t, t < tuE c n lim ar q0 - op_ → I' (k + 7) (cc + t) = c (op_ + t)) → (∀ c j : Nat, ¬ (c = 61 ∧ j = 2) → ¬ (c = 61 ∧ j = 3) → ¬ (c = 61 ∧ j = 4) → ¬ (c = k ∧ j = 2) → ¬ (c = k ∧ j = 10) → ¬ (c = k + 5 ∧ j = 2 * j_) → ¬ (c = k + 6 ∧ j = 2 * j_) → ¬ (c = k + 7 ∧ cc ≤ j) → I' c j = I c j) → (I' 61 2 = pl) → (0 ≤ pl ∧ pl ≤ 4200) → Q none I' L R S
theorem sn_K_kpl : ZSnd 4 9 10 T_K_kpl := ZSnd.loops (zT9_10 3) (by
  rintro args I L R S Q hz ⟨c, n, lim, ar, q0, k, a9, j, j_, op, op_, cc, kc, rfl, hS, hR, htx, hX, hc, hp, hpn, hop, hob, hD, hk, ho0, ha9, hj, har, har2, hkc, hkc2, hlm, hcc, hcq, hm0, hf0, hQ⟩
  obtain ⟨x1, x2⟩ := id hX
  have hn4 := hc.1
  have hk1 := hk.1
  have hk2 := hk.2
  refine ⟨[30], fun nM tM lsM stM I1 L1 R1 S1 => match tM with
      | 30 => ∃ (q : Nat) (f : Int) (z : Nat) (o : Int), nM = ((4100 - z), 0, 0) ∧ lsM = [some (zvr (61)), some (zvi (j_)), some (zvi (op_)), some (zvi (lim)), some (zvi (ar)), some (zvi (z))] ∧ stM = [] ∧ L1 = L ∧ R1 = R ∧ S1 = S ∧ (z ≤ 4002) ∧ (q ≤ 4010) ∧ (-1 ≤ f ∧ f ≤ 9000) ∧ (0 ≤ o ∧ o ≤ 102) ∧ (I1 61 3 = f) ∧ (I1 61 2 = q) ∧ (I1 61 4 = o) ∧ (f = -1 → q0 + z ≤ q ∧ q ≤ n ∧ q ≤ lim ∧ ar ≤ o ∧ o ≤ 100) ∧ ((lim < q0 ∧ f = lim) ∨ (q0 ≤ lim ∧ tuV c n lim ar q0 (o - ar).toNat 0 f q)) ∧ (∀ c j : Nat, ¬ (c = 61 ∧ j = 2) → ¬ (c = 61 ∧ j = 3) → ¬ (c = 61 ∧ j = 4) → I1 c j = I c j)
      | _ => False, rfl, ?_, ⟨?_, True.intro⟩⟩
  · refine And.intro (zA_61 hS) (Exists.intro _ (And.intro (zinl_ok (zT9_24 2)) (And.intro rfl ?_)))
    refine And.intro (zA_61 hS) (zrdR (v := some k) hob ?_)
    refine And.intro (zDX hD 0 rfl) (zrd (v := kc) hkc ?_)
    refine And.intro (zA_61 hS) (zrd (v := (ar + 1)) har ?_)
    refine And.intro (zA_61 hS) (zrd (v := q0) hp ?_)
    refine And.intro ⟨(by omega), (by omega)⟩ ⟨fun h19 => ?_, fun h19 => ?_⟩
    · refine ⟨((4100 - (0 : Nat)), 0, 0), [some (zvr (61)), some (zvi (j_)), some (zvi (op_)), some (zvi (lim)), some (zvi (ar)), some (zvi ((0 : Nat)))], ⟨rfl, (congrArg (fun z => some (zvi z)) (by omega)), (congrArg (fun z => some (zvi z)) (by omega)), (congrArg (fun z => some (zvi z)) (by omega)), (congrArg (fun z => some (zvi z)) (by omega)), rfl, rfl⟩, q0, (-1), 0, (ar + 1), rfl, rfl, rfl, rfl, rfl, rfl, (by omega), (by omega), (by omega), (by omega), hf0, hp, har, (fun h9 => by first | (exfalso; omega) | exact ⟨by omega, by omega, by omega, by omega, by omega⟩), ?_, (fun c j h0 h1 h2 => rfl)⟩
      · first
        | exact Or.inl ⟨by omega, by omega⟩
        | (refine Or.inr ⟨by omega, ?_⟩
           have e : ((ar : Int) + 1 - ar).toNat = 1 := by omega
           rw [e]
           exact tuV_0)
    · refine And.intro (zA_61 hS) (Exists.intro _ (And.intro (zinl_ok (zT9_2 2)) (And.intro rfl ?_)))
      refine And.intro (zA_61 hS) (zrd (v := (-1)) hf0 ?_)
      refine And.intro ⟨(zRb rfl), (zRb rfl)⟩ (zbf rfl ?_)
      refine And.intro (zA_61 hS) ⟨_, (zWi (by omega)), ?_⟩
      refine ⟨((4100 - (0 : Nat)), 0, 0), [some (zvr (61)), some (zvi (j_)), some (zvi (op_)), some (zvi (lim)), some (zvi (ar)), some (zvi ((0 : Nat)))], ⟨rfl, (congrArg (fun z => some (zvi z)) (by omega)), (congrArg (fun z => some (zvi z)) (by omega)), (congrArg (fun z => some (zvi z)) (by omega)), (congrArg (fun z => some (zvi z)) (by omega)), rfl, rfl⟩, q0, ((op + 2000) - kc), 0, (ar + 1), rfl, rfl, rfl, rfl, rfl, rfl, (by omega), (by omega), (by omega), (by omega), rfl, hp, har, (fun h9 => by first | (exfalso; omega) | exact ⟨by omega, by omega, by omega, by omega, by omega⟩), ?_, (fun c j h0 h1 h2 => (zxcj h1 rfl))⟩
      · first
        | exact Or.inl ⟨by omega, by omega⟩
        | (refine Or.inr ⟨by omega, ?_⟩
           have e : ((ar : Int) + 1 - ar).toNat = 1 := by omega
           rw [e]
           exact tuV_0)
  · rintro nM lsM stM I1 L1 R1 S1 hz1 ⟨q, f, z, o, rfl, rfl, rfl, rfl, rfl, rfl, hz, hqb, hfb, hob2, hfv, hpl1, hov, hq, hst, fr⟩
    have cq := tOk_b (p := q) hc
    refine And.intro (zA_61 hS) (zrd (v := n) ((fr 61 1 (by omega) (by omega) (by omega)).trans x1) ?_)
    refine And.intro ⟨(by omega), (by omega)⟩ ⟨fun h36 => ?_, fun h36 => ?_⟩
    · refine And.intro (zA_61 hS) (zrd (v := f) hfv ?_)
      refine And.intro ⟨(by omega), (zRb rfl)⟩ ⟨fun h133 => ?_, fun h133 => ?_⟩
      · refine hQ _ (q : Int) ?_ ?_ (fun c j h0 h1 h2 h3 h4 h5 h6 h7 => ((fr c j h0 h1 h2).trans rfl)) hpl1 (by omega)
        · rcases hst with ⟨z0, z⟩ | ⟨z0, z⟩
          · rw [tuX_l z0]
            first
            | exact hfv.trans z
            | (exfalso; omega)
          · first
            | (have hf : f ≠ -1 := by omega
               exact hfv.trans (tuV_x z (by omega) hf).symm)
            | (have hf : f = -1 := by omega
               have ho : (o - ar).toNat = 0 := by omega
               rw [hf, ho] at z
               exact (rfl.trans (hfv.trans hf)).trans (tuV_e z (by omega)).1.symm)
            | (exfalso; omega)
        · intro h9
          rcases hst with ⟨z0, z⟩ | ⟨z0, z⟩
          · exfalso
            rw [tuX_l z0] at h9
            omega
          · first
            | (exfalso
               have hf : f ≠ -1 := by omega
               rw [tuV_x z (by omega) hf] at h9
               omega)
            | (have hf : f = -1 := by omega
               have ho : (o - ar).toNat = 0 := by omega
               rw [hf, ho] at z
               have e := tuV_e z (by omega)
               have e2 := e.2
               have e3 : tuE c n lim ar q0 = q := by omega
               rw [e3]
               exact ⟨rfl.trans hpl1, rfl.trans (hov.trans (by omega)), p150hk2, p150bhc1, p150bbhs5, p150bbbhm1, p150bbbbhl⟩)
            | (exfalso; omega)
      · refine And.intro (zA_61 hS) (zrdR (v := some k) hob ?_)
        refine And.intro (zA_61 hS) (zrdR (v := some 42) htx ?_)
        refine And.intro (zA_61 hS) (zrd (v := q) hpl1 ?_)
        refine And.intro (zDX hD 0 rfl) ⟨_, sn_O_kpl.up (by decide), ?_⟩
        refine ⟨c, n, k, a9, (j_ : Int), j_, (op_ : Int), op_, (q : Int), q, cc, kc, rfl, hS, hR, hD, (fun p_ hp_ => ((fr 42 _ (by omega) (by omega) (by omega)).trans rfl).trans (x2 p_ hp_)), (by first | exact hc | (clear hQ; grind [xu])), ((fr k 0 (by omega) (by omega) (by omega)).trans ho0), (by omega), (by omega), (by omega), (by omega), (by omega), ((fr k 10 (by omega) (by omega) (by omega)).trans hcc), (by omega), ((fr k 2 (by omega) (by omega) (by omega)).trans hkc), (by omega), (((fr (k + 6) _ (by omega) (by omega) (by omega)).trans rfl).trans hm0), ?_⟩
        intro I150o p150hk2 p150bhc1 p150bbhs5 p150bbbhm1 p150bbbbhl p150bbbbbfr
        refine hQ _ (q : Int) ?_ ?_ (fun c j h0 h1 h2 h3 h4 h5 h6 h7 => ((p150bbbbbfr c j h3 h4 (by omega) (by omega) (by omega)).trans ((fr c j h0 h1 h2).trans rfl))) ((p150bbbbbfr 61 2 (by omega) (by omega) (by omega) (by omega) (by omega)).trans hpl1) (by omega)
        · rcases hst with ⟨z0, z⟩ | ⟨z0, z⟩
          · rw [tuX_l z0]
            first
            | exact hfv.trans z
            | (exfalso; omega)
          · first
            | (have hf : f ≠ -1 := by omega
               exact hfv.trans (tuV_x z (by omega) hf).symm)
            | (have hf : f = -1 := by omega
               have ho : (o - ar).toNat = 0 := by omega
               rw [hf, ho] at z
               exact (((p150bbbbbfr 61 _ (by omega) (by omega) (by omega) (by omega) (by omega)).trans rfl).trans (hfv.trans hf)).trans (tuV_e z (by omega)).1.symm)
            | (exfalso; omega)
        · intro h9
          rcases hst with ⟨z0, z⟩ | ⟨z0, z⟩
          · exfalso
            rw [tuX_l z0] at h9
            omega
          · first
            | (exfalso
               have hf : f ≠ -1 := by omega
               rw [tuV_x z (by omega) hf] at h9
               omega)
            | (have hf : f = -1 := by omega
               have ho : (o - ar).toNat = 0 := by omega
               rw [hf, ho] at z
               have e := tuV_e z (by omega)
               have e2 := e.2
               have e3 : tuE c n lim ar q0 = q := by omega
               rw [e3]
               exact ⟨((p150bbbbbfr 61 _ (by omega) (by omega) (by omega) (by omega) (by omega)).trans rfl).trans hpl1, ((p150bbbbbfr 61 _ (by omega) (by omega) (by omega) (by omega) (by omega)).trans rfl).trans (hov.trans (by omega)), p150hk2, p150bhc1, p150bbhs5, p150bbbhm1, p150bbbbhl⟩)
            | (exfalso; omega)
    · refine And.intro (zA_61 hS) (zrd (v := f) hfv ?_)
      refine And.intro ⟨(by omega), (zRb rfl)⟩ ⟨fun h44 => ?_, fun h44 => ?_⟩
      · refine And.intro (zA_61 hS) (zrd (v := f) hfv ?_)
        refine And.intro ⟨(by omega), (zRb rfl)⟩ ⟨fun h133 => ?_, (fun h133 => False.elim (by omega))⟩
        refine hQ _ (q : Int) ?_ ?_ (fun c j h0 h1 h2 h3 h4 h5 h6 h7 => ((fr c j h0 h1 h2).trans rfl)) hpl1 (by omega)
        · rcases hst with ⟨z0, z⟩ | ⟨z0, z⟩
          · rw [tuX_l z0]
            first
            | exact hfv.trans z
            | (exfalso; omega)
          · first
            | (have hf : f ≠ -1 := by omega
               exact hfv.trans (tuV_x z (by omega) hf).symm)
            | (have hf : f = -1 := by omega
               have ho : (o - ar).toNat = 0 := by omega
               rw [hf, ho] at z
               exact (rfl.trans (hfv.trans hf)).trans (tuV_e z (by omega)).1.symm)
            | (exfalso; omega)
        · intro h9
          rcases hst with ⟨z0, z⟩ | ⟨z0, z⟩
          · exfalso
            rw [tuX_l z0] at h9
            omega
          · first
            | (exfalso
               have hf : f ≠ -1 := by omega
               rw [tuV_x z (by omega) hf] at h9
               omega)
            | (have hf : f = -1 := by omega
               have ho : (o - ar).toNat = 0 := by omega
               rw [hf, ho] at z
               have e := tuV_e z (by omega)
               have e2 := e.2
               have e3 : tuE c n lim ar q0 = q := by omega
               rw [e3]
               exact ⟨rfl.trans hpl1, rfl.trans (hov.trans (by omega)), p150hk2, p150bhc1, p150bbhs5, p150bbbhm1, p150bbbbhl⟩)
            | (exfalso; omega)
      · refine And.intro (zA_61 hS) (zrd (v := o) hov ?_)
        refine And.intro ⟨(by omega), (by omega)⟩ ⟨fun h53 => ?_, fun h53 => ?_⟩
        · refine And.intro (zA_61 hS) (zrd (v := f) hfv ?_)
          refine And.intro ⟨(by omega), (zRb rfl)⟩ ⟨(fun h133 => False.elim (by omega)), fun h133 => ?_⟩
          refine And.intro (zA_61 hS) (zrdR (v := some k) hob ?_)
          refine And.intro (zA_61 hS) (zrdR (v := some 42) htx ?_)
          refine And.intro (zA_61 hS) (zrd (v := q) hpl1 ?_)
          refine And.intro (zDX hD 0 rfl) ⟨_, sn_O_kpl.up (by decide), ?_⟩
          refine ⟨c, n, k, a9, (j_ : Int), j_, (op_ : Int), op_, (q : Int), q, cc, kc, rfl, hS, hR, hD, (fun p_ hp_ => ((fr 42 _ (by omega) (by omega) (by omega)).trans rfl).trans (x2 p_ hp_)), (by first | exact hc | (clear hQ; grind [xu])), ((fr k 0 (by omega) (by omega) (by omega)).trans ho0), (by omega), (by omega), (by omega), (by omega), (by omega), ((fr k 10 (by omega) (by omega) (by omega)).trans hcc), (by omega), ((fr k 2 (by omega) (by omega) (by omega)).trans hkc), (by omega), (((fr (k + 6) _ (by omega) (by omega) (by omega)).trans rfl).trans hm0), ?_⟩
          intro I150o p150hk2 p150bhc1 p150bbhs5 p150bbbhm1 p150bbbbhl p150bbbbbfr
          refine hQ _ (q : Int) ?_ ?_ (fun c j h0 h1 h2 h3 h4 h5 h6 h7 => ((p150bbbbbfr c j h3 h4 (by omega) (by omega) (by omega)).trans ((fr c j h0 h1 h2).trans rfl))) ((p150bbbbbfr 61 2 (by omega) (by omega) (by omega) (by omega) (by omega)).trans hpl1) (by omega)
          · rcases hst with ⟨z0, z⟩ | ⟨z0, z⟩
            · rw [tuX_l z0]
              first
              | exact hfv.trans z
              | (exfalso; omega)
            · first
              | (have hf : f ≠ -1 := by omega
                 exact hfv.trans (tuV_x z (by omega) hf).symm)
              | (have hf : f = -1 := by omega
                 have ho : (o - ar).toNat = 0 := by omega
                 rw [hf, ho] at z
                 exact (((p150bbbbbfr 61 _ (by omega) (by omega) (by omega) (by omega) (by omega)).trans rfl).trans (hfv.trans hf)).trans (tuV_e z (by omega)).1.symm)
              | (exfalso; omega)
          · intro h9
            rcases hst with ⟨z0, z⟩ | ⟨z0, z⟩
            · exfalso
              rw [tuX_l z0] at h9
              omega
            · first
              | (exfalso
                 have hf : f ≠ -1 := by omega
                 rw [tuV_x z (by omega) hf] at h9
                 omega)
              | (have hf : f = -1 := by omega
                 have ho : (o - ar).toNat = 0 := by omega
                 rw [hf, ho] at z
                 have e := tuV_e z (by omega)
                 have e2 := e.2
                 have e3 : tuE c n lim ar q0 = q := by omega
                 rw [e3]
                 exact ⟨((p150bbbbbfr 61 _ (by omega) (by omega) (by omega) (by omega) (by omega)).trans rfl).trans hpl1, ((p150bbbbbfr 61 _ (by omega) (by omega) (by omega) (by omega) (by omega)).trans rfl).trans (hov.trans (by omega)), p150hk2, p150bhc1, p150bbhs5, p150bbbhm1, p150bbbbhl⟩)
              | (exfalso; omega)
        · refine And.intro (zA_61 hS) (zrd (v := q) hpl1 ?_)
          refine And.intro (zA_61 hS) (zrd (v := n) ((fr 61 1 (by omega) (by omega) (by omega)).trans x1) ?_)
          refine And.intro ⟨(by omega), (by omega)⟩ ⟨fun h64 => ?_, fun h64 => ?_⟩
          · refine And.intro (zA_61 hS) (zrd (v := q) hpl1 ?_)
            refine And.intro (zA_61 hS) (Exists.intro _ (And.intro (zinl_ok (zT9_2 2)) (And.intro rfl ?_)))
            refine And.intro (zA_61 hS) (zrd (v := f) hfv ?_)
            refine And.intro ⟨(by omega), (zRb rfl)⟩ ⟨(fun h5_80 => False.elim (by omega)), fun h5_80 => ?_⟩
            refine And.intro (zA_61 hS) ⟨_, (zWi (by omega)), ?_⟩
            refine ⟨((4100 - (z + 1)), 0, 0), zlt6 (by omega), [some (zvr (61)), some (zvi (j_)), some (zvi (op_)), some (zvi (lim)), some (zvi (ar)), some (zvi ((z + 1)))], ⟨rfl, rfl, rfl, rfl, rfl, rfl, rfl⟩, q, q, (z + 1), o, rfl, rfl, rfl, rfl, rfl, rfl, (by omega), (by omega), (by omega), (by omega), rfl, hpl1, hov, (fun h9 => by first | (exfalso; omega) | exact ⟨by omega, by omega, by omega, by omega, by omega⟩), ?_, (fun c j h0 h1 h2 => (zxcj h1 ((fr c j h0 h1 h2).trans rfl)))⟩
            · have hf : f = -1 := by omega
              subst hf
              have hoa : (o - ar).toNat ≠ 0 := by omega
              rcases hst with ⟨z0, z⟩ | ⟨z0, z⟩
              · exfalso; omega
              · refine Or.inr ⟨z0, ?_⟩
                first
                | exact tuV_o z rfl hoa (by omega) (by omega) (by omega) (by omega) (Or.inr ⟨by omega, rfl⟩) (by omega)
                | exact tuV_f1 z rfl hoa (by omega) (by omega)
                | exact p102bbhw
          · refine And.intro (zA_61 hS) (zrd (v := q) hpl1 ?_)
            refine And.intro ⟨(by omega), (by omega)⟩ ⟨fun h72 => ?_, fun h72 => ?_⟩
            · refine And.intro (zA_61 hS) (zrdR (v := some 42) htx ?_)
              refine And.intro (zA_61 hS) (zrd (v := q) hpl1 ?_)
              refine And.intro (zP_42 hS (by omega) (by omega)) (fun v94 e94 r94 => ?_)
              have f94 : v94 = c q := (e94.trans ((congrArg (I1 42) (by omega)).trans ((fr 42 _ (by omega) (by omega) (by omega)).trans (x2 q (by omega)))))
              refine And.intro ⟨r94, (zRb rfl)⟩ ⟨fun h97 => ?_, fun h97 => ?_⟩
              · refine And.intro (zA_61 hS) (Exists.intro _ (And.intro (zinl_ok (zT9_8 2)) (And.intro rfl ?_)))
                refine And.intro (zA_61 hS) ⟨_, sn_K_peek.up (by decide), ?_⟩
                refine ⟨c, n, q, rfl, hS, hR, htx, (by first | exact (zRD_fr hX (fun c j h => ((fr c j (by omega) (by omega) (by omega)).trans rfl))) | (clear hQ; grind [xu])), (by first | exact hc | (clear hQ; grind [xu])), hpl1, (by omega), ?_⟩
                intro v1_109o p1_109hv p1_109bhv2
                refine And.intro ⟨(by omega), (zRb rfl)⟩ ⟨fun h6_109 => ?_, fun h6_109 => ?_⟩
                · refine And.intro (zA_61 hS) ⟨_, sn_K_peek.up (by decide), ?_⟩
                  refine ⟨c, n, q, rfl, hS, hR, htx, (by first | exact (zRD_fr hX (fun c j h => ((fr c j (by omega) (by omega) (by omega)).trans rfl))) | (clear hQ; grind [xu])), (by first | exact hc | (clear hQ; grind [xu])), hpl1, (by omega), ?_⟩
                  intro v23_109o p23_109hv p23_109bhv2
                  refine And.intro ⟨(by omega), (zRb rfl)⟩ ⟨fun h28_109 => ?_, fun h28_109 => ?_⟩
                  · refine And.intro (zA_61 hS) (zrd (v := q) hpl1 ?_)
                    refine And.intro (zA_61 hS) ⟨_, (zWi (by omega)), ?_⟩
                    refine ⟨((4100 - (z + 1)), 0, 0), zlt6 (by omega), [some (zvr (61)), some (zvi (j_)), some (zvi (op_)), some (zvi (lim)), some (zvi (ar)), some (zvi ((z + 1)))], ⟨rfl, rfl, rfl, rfl, rfl, rfl, rfl⟩, (q + 1), f, (z + 1), o, rfl, rfl, rfl, rfl, rfl, rfl, (by omega), (by omega), (by omega), (by omega), hfv, rfl, hov, (fun h9 => by first | (exfalso; omega) | exact ⟨by omega, by omega, by omega, by omega, by omega⟩), ?_, (fun c j h0 h1 h2 => (zxcj h0 ((fr c j h0 h1 h2).trans rfl)))⟩
                    · have hf : f = -1 := by omega
                      subst hf
                      have hoa : (o - ar).toNat ≠ 0 := by omega
                      rcases hst with ⟨z0, z⟩ | ⟨z0, z⟩
                      · exfalso; omega
                      · refine Or.inr ⟨z0, ?_⟩
                        first
                        | exact tuV_o z rfl hoa (by omega) (by omega) (by omega) (by omega) (Or.inr ⟨by omega, rfl⟩) (by omega)
                        | exact tuV_f1 z rfl hoa (by omega) (by omega)
                        | exact p102bbhw
                  · refine And.intro (zA_61 hS) (zrd (v := o) hov ?_)
                    refine And.intro ⟨(by omega), (zRb rfl)⟩ ⟨fun h37_109 => ?_, fun h37_109 => ?_⟩
                    · refine And.intro (zA_61 hS) (zrd (v := o) hov ?_)
                      refine And.intro (zA_61 hS) ⟨_, (zWi (by omega)), ?_⟩
                      refine And.intro (zA_61 hS) (zrd (v := q) hpl1 ?_)
                      refine And.intro (zA_61 hS) ⟨_, (zWi (by omega)), ?_⟩
                      refine ⟨((4100 - (z + 1)), 0, 0), zlt6 (by omega), [some (zvr (61)), some (zvi (j_)), some (zvi (op_)), some (zvi (lim)), some (zvi (ar)), some (zvi ((z + 1)))], ⟨rfl, rfl, rfl, rfl, rfl, rfl, rfl⟩, (q + 1), f, (z + 1), (o + 1), rfl, rfl, rfl, rfl, rfl, rfl, (by omega), (by omega), (by omega), (by omega), hfv, rfl, rfl, (fun h9 => by first | (exfalso; omega) | exact ⟨by omega, by omega, by omega, by omega, by omega⟩), ?_, (fun c j h0 h1 h2 => (zxcj h0 (zxcj h2 ((fr c j h0 h1 h2).trans rfl))))⟩
                      · have hf : f = -1 := by omega
                        subst hf
                        have hoa : (o - ar).toNat ≠ 0 := by omega
                        rcases hst with ⟨z0, z⟩ | ⟨z0, z⟩
                        · exfalso; omega
                        · refine Or.inr ⟨z0, ?_⟩
                          first
                          | exact tuV_o z rfl hoa (by omega) (by omega) (by omega) (by omega) (Or.inr ⟨by omega, rfl⟩) (by omega)
                          | exact tuV_f1 z rfl hoa (by omega) (by omega)
                          | exact p102bbhw
                    · refine And.intro (zA_61 hS) (zrd (v := q) hpl1 ?_)
                      refine And.intro (zA_61 hS) (Exists.intro _ (And.intro (zinl_ok (zT9_2 1)) (And.intro rfl ?_)))
                      refine And.intro (zA_61 hS) (zrd (v := f) hfv ?_)
                      refine And.intro ⟨(by omega), (zRb rfl)⟩ ⟨(fun h5_109_45 => False.elim (by omega)), fun h5_109_45 => ?_⟩
                      refine And.intro (zA_61 hS) ⟨_, (zWi (by omega)), ?_⟩
                      refine And.intro (zA_61 hS) (zrd (v := o) hov ?_)
                      refine And.intro (zA_61 hS) ⟨_, (zWi (by omega)), ?_⟩
                      refine And.intro (zA_61 hS) (zrd (v := q) hpl1 ?_)
                      refine And.intro (zA_61 hS) ⟨_, (zWi (by omega)), ?_⟩
                      refine ⟨((4100 - (z + 1)), 0, 0), zlt6 (by omega), [some (zvr (61)), some (zvi (j_)), some (zvi (op_)), some (zvi (lim)), some (zvi (ar)), some (zvi ((z + 1)))], ⟨rfl, rfl, rfl, rfl, rfl, rfl, rfl⟩, (q + 1), q, (z + 1), (o + 1), rfl, rfl, rfl, rfl, rfl, rfl, (by omega), (by omega), (by omega), (by omega), rfl, rfl, rfl, (fun h9 => by first | (exfalso; omega) | exact ⟨by omega, by omega, by omega, by omega, by omega⟩), ?_, (fun c j h0 h1 h2 => (zxcj h0 (zxcj h2 (zxcj h1 ((fr c j h0 h1 h2).trans rfl)))))⟩
                      · have hf : f = -1 := by omega
                        subst hf
                        have hoa : (o - ar).toNat ≠ 0 := by omega
                        rcases hst with ⟨z0, z⟩ | ⟨z0, z⟩
                        · exfalso; omega
                        · refine Or.inr ⟨z0, ?_⟩
                          first
                          | exact tuV_o z rfl hoa (by omega) (by omega) (by omega) (by omega) (Or.inr ⟨by omega, rfl⟩) (by omega)
                          | exact tuV_f1 z rfl hoa (by omega) (by omega)
                          | exact p102bbhw
                · refine And.intro (zA_61 hS) (zrd (v := o) hov ?_)
                  refine And.intro (zA_61 hS) ⟨_, (zWi (by omega)), ?_⟩
                  refine And.intro (zA_61 hS) (zrd (v := q) hpl1 ?_)
                  refine And.intro (zA_61 hS) ⟨_, (zWi (by omega)), ?_⟩
                  refine ⟨((4100 - (z + 1)), 0, 0), zlt6 (by omega), [some (zvr (61)), some (zvi (j_)), some (zvi (op_)), some (zvi (lim)), some (zvi (ar)), some (zvi ((z + 1)))], ⟨rfl, rfl, rfl, rfl, rfl, rfl, rfl⟩, (q + 1), f, (z + 1), (o - 1), rfl, rfl, rfl, rfl, rfl, rfl, (by omega), (by omega), (by omega), (by omega), hfv, rfl, rfl, (fun h9 => by first | (exfalso; omega) | exact ⟨by omega, by omega, by omega, by omega, by omega⟩), ?_, (fun c j h0 h1 h2 => (zxcj h0 (zxcj h2 ((fr c j h0 h1 h2).trans rfl))))⟩
                  · have hf : f = -1 := by omega
                    subst hf
                    have hoa : (o - ar).toNat ≠ 0 := by omega
                    rcases hst with ⟨z0, z⟩ | ⟨z0, z⟩
                    · exfalso; omega
                    · refine Or.inr ⟨z0, ?_⟩
                      first
                      | exact tuV_o z rfl hoa (by omega) (by omega) (by omega) (by omega) (Or.inr ⟨by omega, rfl⟩) (by omega)
                      | exact tuV_f1 z rfl hoa (by omega) (by omega)
                      | exact p102bbhw
              · refine And.intro (zA_61 hS) ⟨_, sn_K_skq.up (by decide), ?_⟩
                refine ⟨c, n, q, lim, ar, q0, (o - ar).toNat, (lim : Int), rfl, hS, hR, htx, (by first | exact (zRD_fr hX (fun c j h => ((fr c j (by omega) (by omega) (by omega)).trans rfl))) | (clear hQ; grind [xu])), (by first | exact hc | (clear hQ; grind [xu])), hpl1, (by omega), (by omega), (by omega), (by omega), (Eq.trans (b := (f : Int)) hfv (by omega)), (by omega), (by have hf : f = -1 := (by omega); rcases hst with ⟨z0, z⟩ | ⟨z0, z⟩; (exfalso; omega); (rw [hf] at z; exact z)), ?_⟩
                intro I102o fv102o pv102o p102hfv9 p102bhpv9 p102bbhw p102bbbhb p102bbbbhb2 p102bbbbbhb3 p102bbbbbbfr
                refine ⟨((4100 - (z + 1)), 0, 0), zlt6 (by omega), [some (zvr (61)), some (zvi (j_)), some (zvi (op_)), some (zvi (lim)), some (zvi (ar)), some (zvi ((z + 1)))], ⟨rfl, rfl, rfl, rfl, rfl, rfl, rfl⟩, pv102o, fv102o, (z + 1), o, rfl, rfl, rfl, rfl, rfl, rfl, (by omega), (by omega), (by omega), (by omega), p102hfv9, p102bhpv9, ((p102bbbbbbfr 61 4 (by omega) (by omega)).trans hov), (fun h9 => by first | (exfalso; omega) | exact ⟨by omega, by omega, by omega, by omega, by omega⟩), ?_, (fun c j h0 h1 h2 => ((p102bbbbbbfr c j h0 h1).trans ((fr c j h0 h1 h2).trans rfl)))⟩
                · have hf : f = -1 := by omega
                  subst hf
                  have hoa : (o - ar).toNat ≠ 0 := by omega
                  rcases hst with ⟨z0, z⟩ | ⟨z0, z⟩
                  · exfalso; omega
                  · refine Or.inr ⟨z0, ?_⟩
                    first
                    | exact tuV_o z rfl hoa (by omega) (by omega) (by omega) (by omega) (Or.inr ⟨by omega, rfl⟩) (by omega)
                    | exact tuV_f1 z rfl hoa (by omega) (by omega)
                    | exact p102bbhw
            · refine And.intro (zA_61 hS) (zrd (v := q) hpl1 ?_)
              refine And.intro (zA_61 hS) (Exists.intro _ (And.intro (zinl_ok (zT9_2 2)) (And.intro rfl ?_)))
              refine And.intro (zA_61 hS) (zrd (v := f) hfv ?_)
              refine And.intro ⟨(by omega), (zRb rfl)⟩ ⟨(fun h5_80 => False.elim (by omega)), fun h5_80 => ?_⟩
              refine And.intro (zA_61 hS) ⟨_, (zWi (by omega)), ?_⟩
              refine ⟨((4100 - (z + 1)), 0, 0), zlt6 (by omega), [some (zvr (61)), some (zvi (j_)), some (zvi (op_)), some (zvi (lim)), some (zvi (ar)), some (zvi ((z + 1)))], ⟨rfl, rfl, rfl, rfl, rfl, rfl, rfl⟩, q, q, (z + 1), o, rfl, rfl, rfl, rfl, rfl, rfl, (by omega), (by omega), (by omega), (by omega), rfl, hpl1, hov, (fun h9 => by first | (exfalso; omega) | exact ⟨by omega, by omega, by omega, by omega, by omega⟩), ?_, (fun c j h0 h1 h2 => (zxcj h1 ((fr c j h0 h1 h2).trans rfl)))⟩
              · have hf : f = -1 := by omega
                subst hf
                have hoa : (o - ar).toNat ≠ 0 := by omega
                rcases hst with ⟨z0, z⟩ | ⟨z0, z⟩
                · exfalso; omega
                · refine Or.inr ⟨z0, ?_⟩
                  first
                  | exact tuV_o z rfl hoa (by omega) (by omega) (by omega) (by omega) (Or.inr ⟨by omega, rfl⟩) (by omega)
                  | exact tuV_f1 z rfl hoa (by omega) (by omega)
                  | exact p102bbhw)
