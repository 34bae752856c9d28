/-! rp2 -/
def T_K_isd : ZT := fun args I L R S Q => ∃ (c : Nat → Int) (n : Nat) (l : Int) (l_ : Nat) (d : Int) (d_ : Nat), args = [zvr 61, zvi l, zvi d] ∧ (zSh S) ∧ (zRs R) ∧ (R 61 0 = some 42) ∧ (zRD c n I) ∧ (tOk c n) ∧ (l = l_ ∧ l_ ≤ 4300) ∧ (d = d_ ∧ d_ ≤ 300) ∧ ∀ (v : Int), ((v = 1 ∧ tDd c l_ d_) ∨ (v = 0 ∧ ¬ tDd c l_ d_)) → (0 ≤ v ∧ v ≤ 1) → Q (some (zvi (v))) I L R S
theorem sn_K_isd : ZSnd 1 9 6 T_K_isd := ZSnd.loops (zT9_6 0) (by
  rintro args I L R S Q hz ⟨c, n, l, l_, d, d_, rfl, hS, hR, htx, hX, hc, hl, hd, hQ⟩
  obtain ⟨x1, x2⟩ := id hX
  have hn4 := hc.1
  refine ⟨[5], fun nM tM lsM stM I1 L1 R1 S1 => match tM with
      | 5 => ∃ (i : Nat) (e : Int), nM = ((400 - i), 0, 0) ∧ lsM = [some (zvr (61)), some (zvi (l_)), some (zvi (d_)), some (zvi (e)), some (zvi (i))] ∧ stM = [] ∧ I1 = I ∧ L1 = L ∧ R1 = R ∧ S1 = S ∧ (i ≤ d_ + 1) ∧ (0 ≤ e ∧ e ≤ 1) ∧ ((e = 1 ∧ ∀ t, t < i → c (l_ + t) = 46) ∨ (e = 0 ∧ ¬ tDd c l_ d_))
      | _ => False, rfl, ?_, ⟨?_, True.intro⟩⟩
  · refine ⟨((400 - (0 : Nat)), 0, 0), [some (zvr (61)), some (zvi (l_)), some (zvi (d_)), some (zvi ((1 : Int))), some (zvi ((0 : Nat)))], ⟨rfl, (congrArg (fun z => some (zvi z)) (by omega)), (congrArg (fun z => some (zvi z)) (by omega)), rfl, rfl, rfl⟩, 0, 1, rfl, rfl, rfl, rfl, rfl, rfl, rfl, (by omega), (by omega), (Or.inl ⟨rfl, fun t h => absurd h (Nat.not_lt_zero t)⟩)⟩
  · rintro nM lsM stM I1 L1 R1 S1 hz1 ⟨i, e, rfl, rfl, rfl, rfl, rfl, rfl, rfl, hi, heb, hst⟩
    have ci := tOk_b (p := l_ + i) hc
    refine And.intro ⟨(by omega), (by omega)⟩ ⟨fun h8 => ?_, fun h8 => ?_⟩
    · refine And.intro (by omega) ?_
      refine hQ _ ?_ (by omega)
      · rcases hst with z | z
        · exact Or.inl ⟨z.1, fun t ht => z.2 t (by omega)⟩
        · exact Or.inr z
    · refine And.intro (by omega) ⟨fun h12 => ?_, fun h12 => ?_⟩
      · refine And.intro (by omega) ?_
        refine hQ _ ?_ (by omega)
        · rcases hst with z | z
          · exact Or.inl ⟨z.1, fun t ht => z.2 t (by omega)⟩
          · exact Or.inr z
      · refine And.intro (zA_61 hS) (zrd (v := n) x1 ?_)
        refine And.intro ⟨(by omega), (by omega)⟩ ⟨fun h23 => ?_, fun h23 => ?_⟩
        · refine ⟨((400 - (i + 1)), 0, 0), zlt6 (by omega), [some (zvr (61)), some (zvi (l_)), some (zvi (d_)), some (zvi ((0 : Int))), some (zvi ((i + 1)))], ⟨rfl, rfl, rfl, rfl, rfl, rfl⟩, (i + 1), 0, rfl, rfl, rfl, rfl, rfl, rfl, rfl, (by omega), (by omega), ?_⟩
          · rcases hst with z | z
            · first
              | (refine Or.inl ⟨rfl, fun t ht => ?_⟩
                 by_cases e9 : t = i
                 · rw [e9]
                   omega
                 · exact z.2 t (by omega))
              | (refine Or.inr ⟨rfl, fun w => ?_⟩
                 have w2 := w i (by omega)
                 omega)
            · exfalso; omega
        · refine And.intro (zA_61 hS) (zrdR (v := some 42) htx ?_)
          refine And.intro (zP_42 hS (by omega) (by omega)) (fun v34 e34 r34 => ?_)
          have f34 : v34 = c (l_ + i) := (e34.trans ((congrArg (I1 42) (by omega)).trans (x2 (l_ + i) (by omega))))
          refine And.intro ⟨r34, (zRb rfl)⟩ ⟨fun h37 => ?_, fun h37 => ?_⟩
          · refine ⟨((400 - (i + 1)), 0, 0), zlt6 (by omega), [some (zvr (61)), some (zvi (l_)), some (zvi (d_)), some (zvi ((0 : Int))), some (zvi ((i + 1)))], ⟨rfl, rfl, rfl, rfl, rfl, rfl⟩, (i + 1), 0, rfl, rfl, rfl, rfl, rfl, rfl, rfl, (by omega), (by omega), ?_⟩
            · rcases hst with z | z
              · first
                | (refine Or.inl ⟨rfl, fun t ht => ?_⟩
                   by_cases e9 : t = i
                   · rw [e9]
                     omega
                   · exact z.2 t (by omega))
                | (refine Or.inr ⟨rfl, fun w => ?_⟩
                   have w2 := w i (by omega)
                   omega)
              · exfalso; omega
          · refine ⟨((400 - (i + 1)), 0, 0), zlt6 (by omega), [some (zvr (61)), some (zvi (l_)), some (zvi (d_)), some (zvi ((1 : Int))), some (zvi ((i + 1)))], ⟨rfl, rfl, rfl, rfl, rfl, rfl⟩, (i + 1), 1, rfl, rfl, rfl, rfl, rfl, rfl, rfl, (by omega), (by omega), ?_⟩
            · rcases hst with z | z
              · first
                | (refine Or.inl ⟨rfl, fun t ht => ?_⟩
                   by_cases e9 : t = i
                   · rw [e9]
                     omega
                   · exact z.2 t (by omega))
                | (refine Or.inr ⟨rfl, fun w => ?_⟩
                   have w2 := w i (by omega)
                   omega)
              · exfalso; omega)
def T_K_kpn : ZT := fun args I L R S Q => ∃ (c : Nat → Int) (n : Nat) (lim : Nat) (d_ : Nat) (q0 : Nat) (k : Nat) (a9 : Int) (j : Int) (j_ : Nat) (op : Int) (op_ : Nat) (cc : Nat) (kc : Nat) (d : Int), args = [zvr 61, zvi j, zvi op, zvi d] ∧ (zSh S) ∧ (zRs R) ∧ (R 61 0 = some 42) ∧ (zRD c n I) ∧ (tOk c n) ∧ (I 61 2 = q0) ∧ (q0 ≤ n) ∧ (op = op_ ∧ op_ ≤ q0) ∧ (R 61 7 = some k) ∧ (zDy zT2 zF2 k R S) ∧ (43 ≤ k ∧ k ≤ 52) ∧ (I k 0 = a9) ∧ (0 ≤ a9 ∧ a9 ≤ 200) ∧ (j = j_ ∧ j_ < a9) ∧ (d = d_ ∧ d_ ≤ 300) ∧ (I k 2 = kc) ∧ (kc ≤ 2000) ∧ (lim + kc = op_ + 2000) ∧ (I k 10 = cc) ∧ (cc ≤ op_) ∧ (I (k + 6) (2 * j_) = 0) ∧ (I 61 3 = -1) ∧ ∀ (I' : ZI) (pl : Int), (I' 61 3 = tlX c n lim d_ q0) → (tlX c n lim d_ q0 = -1 → I' 61 2 = tlE c n lim d_ q0 + 1 ∧ I' k 2 = kc + (tlE c n lim d_ q0 - op_ : Nat) ∧ I' k 10 = cc + (tlE c n lim d_ q0 - op_ : Nat) ∧ I' (k + 5) (2 * j_) = cc ∧ I' (k + 6) (2 * j_) = (tlE c n lim d_ q0 - op_ : Nat) ∧ ∀ t, t < tlE c n lim d_ q0 - op_ → I' (k + 7) (cc + t) = c (op_ + t)) → (∀ c j : Nat, ¬ (c = 61 ∧ j = 2) → ¬ (c = 61 ∧ j = 3) → ¬ (c = k ∧ j = 2) → ¬ (c = k ∧ j = 10) → ¬ (c = k + 5 ∧ j = 2 * j_) → ¬ (c = k + 6 ∧ j = 2 * j_) → ¬ (c = k + 7 ∧ cc ≤ j) → I' c j = I c j) → (I' 61 2 = pl) → (0 ≤ pl ∧ pl ≤ 4200) → Q none I' L R S
theorem sn_K_kpn : ZSnd 4 9 9 T_K_kpn := ZSnd.loops (zT9_9 3) (by
  rintro args I L R S Q hz ⟨c, n, lim, d_, q0, k, a9, j, j_, op, op_, cc, kc, d, rfl, hS, hR, htx, hX, hc, hp, hpn, hop, hob, hD, hk, ho0, ha9, hj, hd, hkc, hkc2, hlm, hcc, hcq, hm0, hf0, hQ⟩
  obtain ⟨x1, x2⟩ := id hX
  have hn4 := hc.1
  have hk1 := hk.1
  have hk2 := hk.2
  refine ⟨[25], fun nM tM lsM stM I1 L1 R1 S1 => match tM with
      | 25 => ∃ (q : Nat) (f : Int) (z : Nat), nM = ((4100 - z), 0, 0) ∧ lsM = [some (zvr (61)), some (zvi (j_)), some (zvi (op_)), some (zvi (d_)), some (zvi (lim)), some (zvi (z))] ∧ stM = [] ∧ L1 = L ∧ R1 = R ∧ S1 = S ∧ (z ≤ 4002) ∧ (q ≤ 4010) ∧ (-1 ≤ f ∧ f ≤ 9000) ∧ (I1 61 3 = f) ∧ (I1 61 2 = q) ∧ (f = -1 → q0 + z ≤ q ∧ q ≤ n) ∧ ((lim < q0 ∧ f = lim) ∨ (q0 ≤ lim ∧ ((f = -1 ∧ q0 ≤ q ∧ ∀ t, q0 ≤ t → t < q → ¬ tlP c n lim d_ t) ∨ (f ≠ -1 ∧ f = tlX c n lim d_ q0)))) ∧ (∀ c j : Nat, ¬ (c = 61 ∧ j = 2) → ¬ (c = 61 ∧ j = 3) → I1 c j = I c j)
      | _ => False, rfl, ?_, ⟨?_, True.intro⟩⟩
  · refine And.intro (zA_61 hS) (Exists.intro _ (And.intro (zinl_ok (zT9_24 2)) (And.intro rfl ?_)))
    refine And.intro (zA_61 hS) (zrdR (v := some k) hob ?_)
    refine And.intro (zDX hD 0 rfl) (zrd (v := kc) hkc ?_)
    refine And.intro (zA_61 hS) (zrd (v := q0) hp ?_)
    refine And.intro ⟨(by omega), (by omega)⟩ ⟨fun h13 => ?_, fun h13 => ?_⟩
    · refine ⟨((4100 - (0 : Nat)), 0, 0), [some (zvr (61)), some (zvi (j_)), some (zvi (op_)), some (zvi (d_)), some (zvi (lim)), some (zvi ((0 : Nat)))], ⟨rfl, (congrArg (fun z => some (zvi z)) (by omega)), (congrArg (fun z => some (zvi z)) (by omega)), (congrArg (fun z => some (zvi z)) (by omega)), (congrArg (fun z => some (zvi z)) (by omega)), rfl, rfl⟩, q0, (-1), 0, rfl, rfl, rfl, rfl, rfl, rfl, (by omega), (by omega), (by omega), hf0, hp, (fun h9 => by first | (exfalso; omega) | exact ⟨by omega, by omega⟩), ?_, (fun c j h0 h1 => rfl)⟩
      · first
        | exact Or.inl ⟨by omega, by omega⟩
        | exact Or.inr ⟨by omega, Or.inl ⟨rfl, Nat.le_refl _, fun t h1 h2 => by omega⟩⟩
    · refine And.intro (zA_61 hS) (Exists.intro _ (And.intro (zinl_ok (zT9_2 2)) (And.intro rfl ?_)))
      refine And.intro (zA_61 hS) (zrd (v := (-1)) hf0 ?_)
      refine And.intro ⟨(zRb rfl), (zRb rfl)⟩ (zbf rfl ?_)
      refine And.intro (zA_61 hS) ⟨_, (zWi (by omega)), ?_⟩
      refine ⟨((4100 - (0 : Nat)), 0, 0), [some (zvr (61)), some (zvi (j_)), some (zvi (op_)), some (zvi (d_)), some (zvi (lim)), some (zvi ((0 : Nat)))], ⟨rfl, (congrArg (fun z => some (zvi z)) (by omega)), (congrArg (fun z => some (zvi z)) (by omega)), (congrArg (fun z => some (zvi z)) (by omega)), (congrArg (fun z => some (zvi z)) (by omega)), rfl, rfl⟩, q0, ((op + 2000) - kc), 0, rfl, rfl, rfl, rfl, rfl, rfl, (by omega), (by omega), (by omega), rfl, hp, (fun h9 => by first | (exfalso; omega) | exact ⟨by omega, by omega⟩), ?_, (fun c j h0 h1 => (zxcj h1 rfl))⟩
      · first
        | exact Or.inl ⟨by omega, by omega⟩
        | exact Or.inr ⟨by omega, Or.inl ⟨rfl, Nat.le_refl _, fun t h1 h2 => by omega⟩⟩
  · rintro nM lsM stM I1 L1 R1 S1 hz1 ⟨q, f, z, rfl, rfl, rfl, rfl, rfl, rfl, hz, hqb, hfb, hfv, hpl1, hq, hst, fr⟩
    have cq := tOk_b (p := q) hc
    refine And.intro (zA_61 hS) (zrd (v := n) ((fr 61 1 (by omega) (by omega)).trans x1) ?_)
    refine And.intro ⟨(by omega), (by omega)⟩ ⟨fun h31 => ?_, fun h31 => ?_⟩
    · refine hQ _ (q : Int) ?_ ?_ (fun c j h0 h1 h2 h3 h4 h5 h6 => ((fr c j h0 h1).trans rfl)) hpl1 (by omega)
      · rcases hst with ⟨z0, z⟩ | ⟨z0, z⟩
        · rw [tlX_l z0]
          first
          | exact hfv.trans z
          | (exfalso; omega)
        · rcases z with ⟨z1, z2, z3⟩ | ⟨z1, z2⟩
          · first
            | (have hno : c q = 10 ∧ ¬ tDd c (q + 1) d_ := ⟨by omega, by
                 rcases p59hv with y | y
                 · exfalso; omega
                 · exact y.2⟩
               exact (rfl.trans (hfv.trans z1)).trans (tlX_e (by omega) z2 z3 hno).1.symm)
            | (exfalso
               have w := hq z1
               omega)
          · first
            | exact hfv.trans z2
            | (exfalso; omega)
      · intro h9
        rcases hst with ⟨z0, z⟩ | ⟨z0, z⟩
        · exfalso
          rw [tlX_l z0] at h9
          omega
        · rcases z with ⟨z1, z2, z3⟩ | ⟨z1, z2⟩
          · first
            | (have hno : c q = 10 ∧ ¬ tDd c (q + 1) d_ := ⟨by omega, by
                 rcases p59hv with y | y
                 · exfalso; omega
                 · exact y.2⟩
               have e := (tlX_e (by omega) z2 z3 hno).2
               rw [e]
               exact ⟨zxe, zxu (by omega) p79hk2, zxu (by omega) p79bhc1, zxu (by omega) p79bbhs5, zxu (by omega) p79bbbhm1, fun t ht => zxu (by omega) (p79bbbbhl t ht)⟩)
            | (exfalso
               have w := hq z1
               omega)
          · exfalso; omega
    · refine And.intro (zA_61 hS) (zrd (v := f) hfv ?_)
      refine And.intro ⟨(by omega), (zRb rfl)⟩ ⟨fun h39 => ?_, fun h39 => ?_⟩
      · refine hQ _ (q : Int) ?_ ?_ (fun c j h0 h1 h2 h3 h4 h5 h6 => ((fr c j h0 h1).trans rfl)) hpl1 (by omega)
        · rcases hst with ⟨z0, z⟩ | ⟨z0, z⟩
          · rw [tlX_l z0]
            first
            | exact hfv.trans z
            | (exfalso; omega)
          · rcases z with ⟨z1, z2, z3⟩ | ⟨z1, z2⟩
            · first
              | (have hno : c q = 10 ∧ ¬ tDd c (q + 1) d_ := ⟨by omega, by
                   rcases p59hv with y | y
                   · exfalso; omega
                   · exact y.2⟩
                 exact (rfl.trans (hfv.trans z1)).trans (tlX_e (by omega) z2 z3 hno).1.symm)
              | (exfalso
                 have w := hq z1
                 omega)
            · first
              | exact hfv.trans z2
              | (exfalso; omega)
        · intro h9
          rcases hst with ⟨z0, z⟩ | ⟨z0, z⟩
          · exfalso
            rw [tlX_l z0] at h9
            omega
          · rcases z with ⟨z1, z2, z3⟩ | ⟨z1, z2⟩
            · first
              | (have hno : c q = 10 ∧ ¬ tDd c (q + 1) d_ := ⟨by omega, by
                   rcases p59hv with y | y
                   · exfalso; omega
                   · exact y.2⟩
                 have e := (tlX_e (by omega) z2 z3 hno).2
                 rw [e]
                 exact ⟨zxe, zxu (by omega) p79hk2, zxu (by omega) p79bhc1, zxu (by omega) p79bbhs5, zxu (by omega) p79bbbhm1, fun t ht => zxu (by omega) (p79bbbbhl t ht)⟩)
              | (exfalso
                 have w := hq z1
                 omega)
            · exfalso; omega
      · refine And.intro (zA_61 hS) ⟨_, sn_K_peek.up (by decide), ?_⟩
        refine ⟨c, n, q, rfl, hS, hR, htx, (by first | exact (zRD_fr hX (fun c j h => ((fr c j (by omega) (by omega)).trans rfl))) | (clear hQ; grind [xu])), (by first | exact hc | (clear hQ; grind [xu])), hpl1, (by omega), ?_⟩
        intro v43o p43hv p43bhv2
        refine And.intro ⟨(by omega), (zRb rfl)⟩ ⟨fun h48 => ?_, fun h48 => ?_⟩
        · refine And.intro (zA_61 hS) (zrd (v := q) hpl1 ?_)
          refine And.intro (zA_61 hS) (zrd (v := n) ((fr 61 1 (by omega) (by omega)).trans x1) ?_)
          refine And.intro ⟨(by omega), (by omega)⟩ ⟨fun h101 => ?_, fun h101 => ?_⟩
          · refine And.intro (zA_61 hS) (zrd (v := q) hpl1 ?_)
            refine And.intro (zA_61 hS) (Exists.intro _ (And.intro (zinl_ok (zT9_2 2)) (And.intro rfl ?_)))
            refine And.intro (zA_61 hS) (zrd (v := f) hfv ?_)
            refine And.intro ⟨(by omega), (zRb rfl)⟩ ⟨(fun h5_118 => False.elim (by omega)), fun h5_118 => ?_⟩
            refine And.intro (zA_61 hS) ⟨_, (zWi (by omega)), ?_⟩
            refine And.intro (zA_61 hS) (zrd (v := q) hpl1 ?_)
            refine And.intro (zA_61 hS) ⟨_, (zWi (by omega)), ?_⟩
            refine ⟨((4100 - (z + 1)), 0, 0), zlt6 (by omega), [some (zvr (61)), some (zvi (j_)), some (zvi (op_)), some (zvi (d_)), some (zvi (lim)), some (zvi ((z + 1)))], ⟨rfl, rfl, rfl, rfl, rfl, rfl, rfl⟩, (q + 1), q, (z + 1), rfl, rfl, rfl, rfl, rfl, rfl, (by omega), (by omega), (by omega), rfl, rfl, (fun h9 => by first | (exfalso; omega) | exact ⟨by omega, by omega⟩), ?_, (fun c j h0 h1 => (zxcj h0 (zxcj h1 ((fr c j h0 h1).trans rfl))))⟩
            · have hf : f = -1 := by omega
              rcases hst with ⟨z0, z⟩ | ⟨z0, z⟩
              · exfalso; omega
              · refine Or.inr ⟨z0, ?_⟩
                rcases z with ⟨z1, z2, z3⟩ | ⟨z1, z2⟩
                · have hno : ¬ (c q = 10 ∧ ¬ tDd c (q + 1) d_) := by
                    first
                    | exact fun w => by have w1 := w.1; omega
                    | (rcases p59hv with y | y
                       · exact fun w => w.2 y.2
                       · exfalso; omega)
                  first
                  | (refine Or.inl ⟨rfl, by omega, fun t h1 h2 => ?_⟩
                     by_cases e : t = q
                     · rw [e]
                       intro w
                       rcases w with w | w | w
                       · exact hno w
                       · omega
                       · omega
                     · exact z3 t h1 (by omega))
                  | (refine Or.inl ⟨hf, by omega, fun t h1 h2 => ?_⟩
                     by_cases e : t = q
                     · rw [e]
                       intro w
                       rcases w with w | w | w
                       · exact hno w
                       · omega
                       · omega
                     · exact z3 t h1 (by omega))
                  | exact Or.inr ⟨by omega, (tlX_f (by omega) z2 z3 hno (by omega)).symm⟩
                · exact absurd hf z1
          · refine And.intro (zA_61 hS) (zrd (v := q) hpl1 ?_)
            refine And.intro ⟨(by omega), (by omega)⟩ ⟨fun h110 => ?_, fun h110 => ?_⟩
            · refine And.intro (zA_61 hS) (zrd (v := q) hpl1 ?_)
              refine And.intro (zA_61 hS) ⟨_, (zWi (by omega)), ?_⟩
              refine ⟨((4100 - (z + 1)), 0, 0), zlt6 (by omega), [some (zvr (61)), some (zvi (j_)), some (zvi (op_)), some (zvi (d_)), some (zvi (lim)), some (zvi ((z + 1)))], ⟨rfl, rfl, rfl, rfl, rfl, rfl, rfl⟩, (q + 1), f, (z + 1), rfl, rfl, rfl, rfl, rfl, rfl, (by omega), (by omega), (by omega), hfv, rfl, (fun h9 => by first | (exfalso; omega) | exact ⟨by omega, by omega⟩), ?_, (fun c j h0 h1 => (zxcj h0 ((fr c j h0 h1).trans rfl)))⟩
              · have hf : f = -1 := by omega
                rcases hst with ⟨z0, z⟩ | ⟨z0, z⟩
                · exfalso; omega
                · refine Or.inr ⟨z0, ?_⟩
                  rcases z with ⟨z1, z2, z3⟩ | ⟨z1, z2⟩
                  · have hno : ¬ (c q = 10 ∧ ¬ tDd c (q + 1) d_) := by
                      first
                      | exact fun w => by have w1 := w.1; omega
                      | (rcases p59hv with y | y
                         · exact fun w => w.2 y.2
                         · exfalso; omega)
                    first
                    | (refine Or.inl ⟨rfl, by omega, fun t h1 h2 => ?_⟩
                       by_cases e : t = q
                       · rw [e]
                         intro w
                         rcases w with w | w | w
                         · exact hno w
                         · omega
                         · omega
                       · exact z3 t h1 (by omega))
                    | (refine Or.inl ⟨hf, by omega, fun t h1 h2 => ?_⟩
                       by_cases e : t = q
                       · rw [e]
                         intro w
                         rcases w with w | w | w
                         · exact hno w
                         · omega
                         · omega
                       · exact z3 t h1 (by omega))
                    | exact Or.inr ⟨by omega, (tlX_f (by omega) z2 z3 hno (by omega)).symm⟩
                  · exact absurd hf z1
            · refine And.intro (zA_61 hS) (zrd (v := q) hpl1 ?_)
              refine And.intro (zA_61 hS) (Exists.intro _ (And.intro (zinl_ok (zT9_2 2)) (And.intro rfl ?_)))
              refine And.intro (zA_61 hS) (zrd (v := f) hfv ?_)
              refine And.intro ⟨(by omega), (zRb rfl)⟩ ⟨(fun h5_118 => False.elim (by omega)), fun h5_118 => ?_⟩
              refine And.intro (zA_61 hS) ⟨_, (zWi (by omega)), ?_⟩
              refine And.intro (zA_61 hS) (zrd (v := q) hpl1 ?_)
              refine And.intro (zA_61 hS) ⟨_, (zWi (by omega)), ?_⟩
              refine ⟨((4100 - (z + 1)), 0, 0), zlt6 (by omega), [some (zvr (61)), some (zvi (j_)), some (zvi (op_)), some (zvi (d_)), some (zvi (lim)), some (zvi ((z + 1)))], ⟨rfl, rfl, rfl, rfl, rfl, rfl, rfl⟩, (q + 1), q, (z + 1), rfl, rfl, rfl, rfl, rfl, rfl, (by omega), (by omega), (by omega), rfl, rfl, (fun h9 => by first | (exfalso; omega) | exact ⟨by omega, by omega⟩), ?_, (fun c j h0 h1 => (zxcj h0 (zxcj h1 ((fr c j h0 h1).trans rfl))))⟩
              · have hf : f = -1 := by omega
                rcases hst with ⟨z0, z⟩ | ⟨z0, z⟩
                · exfalso; omega
                · refine Or.inr ⟨z0, ?_⟩
                  rcases z with ⟨z1, z2, z3⟩ | ⟨z1, z2⟩
                  · have hno : ¬ (c q = 10 ∧ ¬ tDd c (q + 1) d_) := by
                      first
                      | exact fun w => by have w1 := w.1; omega
                      | (rcases p59hv with y | y
                         · exact fun w => w.2 y.2
                         · exfalso; omega)
                    first
                    | (refine Or.inl ⟨rfl, by omega, fun t h1 h2 => ?_⟩
                       by_cases e : t = q
                       · rw [e]
                         intro w
                         rcases w with w | w | w
                         · exact hno w
                         · omega
                         · omega
                       · exact z3 t h1 (by omega))
                    | (refine Or.inl ⟨hf, by omega, fun t h1 h2 => ?_⟩
                       by_cases e : t = q
                       · rw [e]
                         intro w
                         rcases w with w | w | w
                         · exact hno w
                         · omega
                         · omega
                       · exact z3 t h1 (by omega))
                    | exact Or.inr ⟨by omega, (tlX_f (by omega) z2 z3 hno (by omega)).symm⟩
                  · exact absurd hf z1
        · refine And.intro (zA_61 hS) (zrd (v := q) hpl1 ?_)
          refine And.intro (zA_61 hS) ⟨_, sn_K_isd.up (by decide), ?_⟩
          refine ⟨c, n, ((q + 1) : Int), (q + 1), (d_ : Int), d_, rfl, hS, hR, htx, (by first | exact (zRD_fr hX (fun c j h => ((fr c j (by omega) (by omega)).trans rfl))) | (clear hQ; grind [xu])), (by first | exact hc | (clear hQ; grind [xu])), (by omega), (by omega), ?_⟩
          intro v59o p59hv p59bhv2
          refine And.intro (by omega) ⟨fun h62 => ?_, fun h62 => ?_⟩
          · refine And.intro (zA_61 hS) (zrd (v := q) hpl1 ?_)
            refine And.intro (zA_61 hS) (zrd (v := n) ((fr 61 1 (by omega) (by omega)).trans x1) ?_)
            refine And.intro ⟨(by omega), (by omega)⟩ ⟨fun h101 => ?_, fun h101 => ?_⟩
            · refine And.intro (zA_61 hS) (zrd (v := q) hpl1 ?_)
              refine And.intro (zA_61 hS) (Exists.intro _ (And.intro (zinl_ok (zT9_2 2)) (And.intro rfl ?_)))
              refine And.intro (zA_61 hS) (zrd (v := f) hfv ?_)
              refine And.intro ⟨(by omega), (zRb rfl)⟩ ⟨(fun h5_118 => False.elim (by omega)), fun h5_118 => ?_⟩
              refine And.intro (zA_61 hS) ⟨_, (zWi (by omega)), ?_⟩
              refine And.intro (zA_61 hS) (zrd (v := q) hpl1 ?_)
              refine And.intro (zA_61 hS) ⟨_, (zWi (by omega)), ?_⟩
              refine ⟨((4100 - (z + 1)), 0, 0), zlt6 (by omega), [some (zvr (61)), some (zvi (j_)), some (zvi (op_)), some (zvi (d_)), some (zvi (lim)), some (zvi ((z + 1)))], ⟨rfl, rfl, rfl, rfl, rfl, rfl, rfl⟩, (q + 1), q, (z + 1), rfl, rfl, rfl, rfl, rfl, rfl, (by omega), (by omega), (by omega), rfl, rfl, (fun h9 => by first | (exfalso; omega) | exact ⟨by omega, by omega⟩), ?_, (fun c j h0 h1 => (zxcj h0 (zxcj h1 ((fr c j h0 h1).trans rfl))))⟩
              · have hf : f = -1 := by omega
                rcases hst with ⟨z0, z⟩ | ⟨z0, z⟩
                · exfalso; omega
                · refine Or.inr ⟨z0, ?_⟩
                  rcases z with ⟨z1, z2, z3⟩ | ⟨z1, z2⟩
                  · have hno : ¬ (c q = 10 ∧ ¬ tDd c (q + 1) d_) := by
                      first
                      | exact fun w => by have w1 := w.1; omega
                      | (rcases p59hv with y | y
                         · exact fun w => w.2 y.2
                         · exfalso; omega)
                    first
                    | (refine Or.inl ⟨rfl, by omega, fun t h1 h2 => ?_⟩
                       by_cases e : t = q
                       · rw [e]
                         intro w
                         rcases w with w | w | w
                         · exact hno w
                         · omega
                         · omega
                       · exact z3 t h1 (by omega))
                    | (refine Or.inl ⟨hf, by omega, fun t h1 h2 => ?_⟩
                       by_cases e : t = q
                       · rw [e]
                         intro w
                         rcases w with w | w | w
                         · exact hno w
                         · omega
                         · omega
                       · exact z3 t h1 (by omega))
                    | exact Or.inr ⟨by omega, (tlX_f (by omega) z2 z3 hno (by omega)).symm⟩
                  · exact absurd hf z1
            · refine And.intro (zA_61 hS) (zrd (v := q) hpl1 ?_)
              refine And.intro ⟨(by omega), (by omega)⟩ ⟨fun h110 => ?_, fun h110 => ?_⟩
              · refine And.intro (zA_61 hS) (zrd (v := q) hpl1 ?_)
                refine And.intro (zA_61 hS) ⟨_, (zWi (by omega)), ?_⟩
                refine ⟨((4100 - (z + 1)), 0, 0), zlt6 (by omega), [some (zvr (61)), some (zvi (j_)), some (zvi (op_)), some (zvi (d_)), some (zvi (lim)), some (zvi ((z + 1)))], ⟨rfl, rfl, rfl, rfl, rfl, rfl, rfl⟩, (q + 1), f, (z + 1), rfl, rfl, rfl, rfl, rfl, rfl, (by omega), (by omega), (by omega), hfv, rfl, (fun h9 => by first | (exfalso; omega) | exact ⟨by omega, by omega⟩), ?_, (fun c j h0 h1 => (zxcj h0 ((fr c j h0 h1).trans rfl)))⟩
                · have hf : f = -1 := by omega
                  rcases hst with ⟨z0, z⟩ | ⟨z0, z⟩
                  · exfalso; omega
                  · refine Or.inr ⟨z0, ?_⟩
                    rcases z with ⟨z1, z2, z3⟩ | ⟨z1, z2⟩
                    · have hno : ¬ (c q = 10 ∧ ¬ tDd c (q + 1) d_) := by
                        first
                        | exact fun w => by have w1 := w.1; omega
                        | (rcases p59hv with y | y
                           · exact fun w => w.2 y.2
                           · exfalso; omega)
                      first
                      | (refine Or.inl ⟨rfl, by omega, fun t h1 h2 => ?_⟩
                         by_cases e : t = q
                         · rw [e]
                           intro w
                           rcases w with w | w | w
                           · exact hno w
                           · omega
                           · omega
                         · exact z3 t h1 (by omega))
                      | (refine Or.inl ⟨hf, by omega, fun t h1 h2 => ?_⟩
                         by_cases e : t = q
                         · rw [e]
                           intro w
                           rcases w with w | w | w
                           · exact hno w
                           · omega
                           · omega
                         · exact z3 t h1 (by omega))
                      | exact Or.inr ⟨by omega, (tlX_f (by omega) z2 z3 hno (by omega)).symm⟩
                    · exact absurd hf z1
              · refine And.intro (zA_61 hS) (zrd (v := q) hpl1 ?_)
                refine And.intro (zA_61 hS) (Exists.intro _ (And.intro (zinl_ok (zT9_2 2)) (And.intro rfl ?_)))
                refine And.intro (zA_61 hS) (zrd (v := f) hfv ?_)
                refine And.intro ⟨(by omega), (zRb rfl)⟩ ⟨(fun h5_118 => False.elim (by omega)), fun h5_118 => ?_⟩
                refine And.intro (zA_61 hS) ⟨_, (zWi (by omega)), ?_⟩
                refine And.intro (zA_61 hS) (zrd (v := q) hpl1 ?_)
                refine And.intro (zA_61 hS) ⟨_, (zWi (by omega)), ?_⟩
                refine ⟨((4100 - (z + 1)), 0, 0), zlt6 (by omega), [some (zvr (61)), some (zvi (j_)), some (zvi (op_)), some (zvi (d_)), some (zvi (lim)), some (zvi ((z + 1)))], ⟨rfl, rfl, rfl, rfl, rfl, rfl, rfl⟩, (q + 1), q, (z + 1), rfl, rfl, rfl, rfl, rfl, rfl, (by omega), (by omega), (by omega), rfl, rfl, (fun h9 => by first | (exfalso; omega) | exact ⟨by omega, by omega⟩), ?_, (fun c j h0 h1 => (zxcj h0 (zxcj h1 ((fr c j h0 h1).trans rfl))))⟩
                · have hf : f = -1 := by omega
                  rcases hst with ⟨z0, z⟩ | ⟨z0, z⟩
                  · exfalso; omega
                  · refine Or.inr ⟨z0, ?_⟩
                    rcases z with ⟨z1, z2, z3⟩ | ⟨z1, z2⟩
                    · have hno : ¬ (c q = 10 ∧ ¬ tDd c (q + 1) d_) := by
                        first
                        | exact fun w => by have w1 := w.1; omega
                        | (rcases p59hv with y | y
                           · exact fun w => w.2 y.2
                           · exfalso; omega)
                      first
                      | (refine Or.inl ⟨rfl, by omega, fun t h1 h2 => ?_⟩
                         by_cases e : t = q
                         · rw [e]
                           intro w
                           rcases w with w | w | w
                           · exact hno w
                           · omega
                           · omega
                         · exact z3 t h1 (by omega))
                      | (refine Or.inl ⟨hf, by omega, fun t h1 h2 => ?_⟩
                         by_cases e : t = q
                         · rw [e]
                           intro w
                           rcases w with w | w | w
                           · exact hno w
                           · omega
                           · omega
                         · exact z3 t h1 (by omega))
                      | exact Or.inr ⟨by omega, (tlX_f (by omega) z2 z3 hno (by omega)).symm⟩
                    · exact absurd hf z1
          · refine And.intro (zA_61 hS) (zrdR (v := some k) hob ?_)
            refine And.intro (zA_61 hS) (zrdR (v := some 42) htx ?_)
            refine And.intro (zA_61 hS) (zrd (v := q) hpl1 ?_)
            refine And.intro (zDX hD 0 rfl) ⟨_, sn_O_kpl.up (by decide), ?_⟩
            refine ⟨c, n, k, a9, (j_ : Int), j_, (op_ : Int), op_, (q : Int), q, cc, kc, rfl, hS, hR, hD, (fun p_ hp_ => ((fr 42 _ (by omega) (by omega)).trans rfl).trans (x2 p_ hp_)), (by first | exact hc | (clear hQ; grind [xu])), ((fr k 0 (by omega) (by omega)).trans ho0), (by omega), (by omega), (by omega), (by omega), (by omega), ((fr k 10 (by omega) (by omega)).trans hcc), (by omega), ((fr k 2 (by omega) (by omega)).trans hkc), (by omega), (((fr (k + 6) _ (by omega) (by omega)).trans rfl).trans hm0), ?_⟩
            intro I79o p79hk2 p79bhc1 p79bbhs5 p79bbbhm1 p79bbbbhl p79bbbbbfr
            refine And.intro (zA_61 hS) (zrd (v := q) ((p79bbbbbfr 61 2 (by omega) (by omega) (by omega) (by omega) (by omega)).trans hpl1) ?_)
            refine And.intro (zA_61 hS) ⟨_, (zWi (by omega)), ?_⟩
            refine hQ _ ((q + 1) : Int) ?_ ?_ (fun c j h0 h1 h2 h3 h4 h5 h6 => (zxcj h0 ((p79bbbbbfr c j h2 h3 (by omega) (by omega) (by omega)).trans ((fr c j h0 h1).trans rfl)))) rfl (by omega)
            · rcases hst with ⟨z0, z⟩ | ⟨z0, z⟩
              · rw [tlX_l z0]
                first
                | exact hfv.trans z
                | (exfalso; omega)
              · rcases z with ⟨z1, z2, z3⟩ | ⟨z1, z2⟩
                · first
                  | (have hno : c q = 10 ∧ ¬ tDd c (q + 1) d_ := ⟨by omega, by
                       rcases p59hv with y | y
                       · exfalso; omega
                       · exact y.2⟩
                     exact ((zxcj (by omega) ((p79bbbbbfr 61 _ (by omega) (by omega) (by omega) (by omega) (by omega)).trans rfl)).trans (hfv.trans z1)).trans (tlX_e (by omega) z2 z3 hno).1.symm)
                  | (exfalso
                     have w := hq z1
                     omega)
                · first
                  | exact hfv.trans z2
                  | (exfalso; omega)
            · intro h9
              rcases hst with ⟨z0, z⟩ | ⟨z0, z⟩
              · exfalso
                rw [tlX_l z0] at h9
                omega
              · rcases z with ⟨z1, z2, z3⟩ | ⟨z1, z2⟩
                · first
                  | (have hno : c q = 10 ∧ ¬ tDd c (q + 1) d_ := ⟨by omega, by
                       rcases p59hv with y | y
                       · exfalso; omega
                       · exact y.2⟩
                     have e := (tlX_e (by omega) z2 z3 hno).2
                     rw [e]
                     exact ⟨zxe, zxu (by omega) p79hk2, zxu (by omega) p79bhc1, zxu (by omega) p79bbhs5, zxu (by omega) p79bbbhm1, fun t ht => zxu (by omega) (p79bbbbhl t ht)⟩)
                  | (exfalso
                     have w := hq z1
                     omega)
                · exfalso; omega)
def T_K_anc : ZT := fun args I L R S Q => ∃ (c : Nat → Int) (n : Nat) (k : Nat) (s : TyS) (y : Int) (d : Int) (d_ : Nat), args = [zvr 61, zvi y, zvi d] ∧ (zSh S) ∧ (zRs R) ∧ (R 61 7 = some k) ∧ (zDy zT2 zF2 k R S) ∧ (43 ≤ k ∧ k ≤ 52) ∧ (zKO k c n 0 s I L) ∧ (tyg c n 0 s) ∧ (y = tyy s (tyd s)) ∧ (d = (d_ : Int) - 1 ∧ d_ ≤ tyd s) ∧ ∀ (v : Int), (v = tyy s d_) → (-1 ≤ v ∧ v + 1 ≤ tyn s) → Q (some (zvi (v))) I L R S
theorem sn_K_anc : ZSnd 3 9 0 T_K_anc := ZSnd.loops (zT9_0 2) (by
  rintro args I L R S Q hz ⟨c, n, k, s, y, d, d_, rfl, hS, hR, hob, hD, hk, hs, hg, hy, hd, hQ⟩
  have hk1 := hk.1
  have hk2 := hk.2
  obtain ⟨s0, s2, s10, srow⟩ := id hs
  obtain ⟨⟨b1, b2, b3, b4, b5, b6, b7, b8, b9⟩, bst, brow⟩ := id hg
  refine ⟨[5], fun nM tM lsM stM I1 L1 R1 S1 => match tM with
      | 5 => ∃ (e : Nat) (y : Int) (z : Nat), nM = ((300 - z), 0, 0) ∧ lsM = [some (zvr (61)), none, some (zvi (d)), some (zvi (y)), some (zvi (z))] ∧ stM = [] ∧ I1 = I ∧ L1 = L ∧ R1 = R ∧ S1 = S ∧ (z ≤ 200) ∧ (d_ ≤ e ∧ e ≤ tyd s ∧ e + z = tyd s) ∧ (y = tyy s e) ∧ (-1 ≤ y ∧ y + 1 ≤ tyn s)
      | _ => False, rfl, ?_, ⟨?_, True.intro⟩⟩
  · refine ⟨((300 - (0 : Nat)), 0, 0), [some (zvr (61)), none, some (zvi (d)), some (zvi (y)), some (zvi ((0 : Nat)))], ⟨rfl, rfl, rfl, rfl, rfl⟩, (tyd s), y, 0, rfl, rfl, rfl, rfl, rfl, rfl, rfl, (by omega), (by omega), (by omega), (by have w := tyz_b hg (Nat.le_refl (tyd s)); rcases w with w | w <;> omega)⟩
  · rintro nM lsM stM I1 L1 R1 S1 hz1 ⟨e, y, z, rfl, rfl, rfl, rfl, rfl, rfl, rfl, hz, he, hy, hyb⟩
    have yz := tyz_b hg he.2.1
    refine And.intro ⟨(by omega), (zRb rfl)⟩ ⟨fun h10 => ?_, fun h10 => ?_⟩
    · refine hQ _ (by rcases yz with q | q; (have e9 : e = d_ := (by omega); rw [← e9]; exact hy); (have q2 := q.2.2.2.2.1; have e9 : e = d_ := (by omega); rw [← e9]; exact hy)) (by omega)
    · refine And.intro ⟨(by omega), (zRb rfl)⟩ ⟨fun h15 => ?_, fun h15 => ?_⟩
      · refine hQ _ (by rcases yz with q | q; (have e9 : e = d_ := (by omega); rw [← e9]; exact hy); (have q2 := q.2.2.2.2.1; have e9 : e = d_ := (by omega); rw [← e9]; exact hy)) (by omega)
      · refine And.intro (zA_61 hS) (zrdR (v := some k) hob ?_)
        refine And.intro (zDX hD 0 rfl) (zrdR (v := some (k + 3)) (zDR hD 2 rfl) ?_)
        refine And.intro (zDP hD 3 rfl rfl (by omega) (by omega)) (fun v26 e26 r26 => ?_)
        have f26 : v26 = tyr s (tyy s e).toNat 4 := (e26.trans ((congrArg (I1 (k + 3)) (by omega)).trans (srow (tyy s e).toNat (by omega)).1.2.2))
        have f26b : 0 ≤ v26 ∧ v26 ≤ 199 := (by have w := e26; rcases yz with q | q; (exfalso; omega); (have q2 := q.2.2.2.2.1; omega))
        refine And.intro ⟨r26, (by omega)⟩ ⟨fun h28 => ?_, fun h28 => ?_⟩
        · refine hQ _ (by rcases yz with q | q; (have e9 : e = d_ := (by omega); rw [← e9]; exact hy); (have q2 := q.2.2.2.2.1; have e9 : e = d_ := (by omega); rw [← e9]; exact hy)) (by omega)
        · refine And.intro (zA_61 hS) (zrdR (v := some k) hob ?_)
          refine And.intro (zDX hD 0 rfl) (Exists.intro _ (And.intro (zinl_ok (zT2_20 1)) (And.intro rfl ?_)))
          refine And.intro (zDX hD 0 rfl) (Exists.intro _ (And.intro (zinl_ok (zT2_14 0)) (And.intro rfl ?_)))
          refine And.intro (by omega) ⟨(fun h1_36_2 => False.elim (by omega)), fun h1_36_2 => ?_⟩
          refine And.intro (zDX hD 0 rfl) (zrd (v := (tyn s)) s0 ?_)
          refine And.intro ⟨(by omega), (by omega)⟩ ⟨(fun h9_36_2 => False.elim (by omega)), fun h9_36_2 => ?_⟩
          refine And.intro (Or.inr rfl) ?_
          refine And.intro (zRb rfl) (zbf rfl ?_)
          refine And.intro (zDX hD 0 rfl) (zrdR (v := some (k + 2)) (zDR hD 1 rfl) ?_)
          refine And.intro (zDP hD 2 rfl rfl (by omega) (by omega)) (fun v13_36 e13_36 r13_36 => ?_)
          have f13_36 : v13_36 = tyr s (tyy s e).toNat 1 := (e13_36.trans ((congrArg (I1 (k + 2)) (by omega)).trans (srow (tyy s e).toNat (by omega)).1.2.1))
          refine ⟨((300 - (z + 1)), 0, 0), zlt6 (by omega), [some (zvr (61)), none, some (zvi (d)), some (zvi (v13_36)), some (zvi ((z + 1)))], ⟨rfl, rfl, rfl, rfl, rfl⟩, (e - 1), v13_36, (z + 1), rfl, rfl, rfl, rfl, rfl, rfl, rfl, (by omega), (by omega), (by rcases yz with q | q; (exfalso; omega); exact (by omega : _ = tyr s (tyy s e).toNat 1).trans q.2.2.2.2.2), (by rcases yz with q | q; (exfalso; omega); (have q2 := q.2.2.2.2.2; have w := tyz_b (d := e - 1) hg (by omega); rcases w with w | w <;> omega))⟩)
