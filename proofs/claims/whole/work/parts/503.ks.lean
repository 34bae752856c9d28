/-! ks -/
def T_K_vals : ZT := fun args I L R S Q => ∃ (c : Nat → Int) (n : Nat) (p : Nat) (k : Nat) (a9 : Int) (j : Int) (j_ : Nat) (a_ : Nat) (x : Int) (b : Nat) (cc : Nat), args = [zvr 61, zvi j] ∧ (zSh S) ∧ (zRs R) ∧ (zSt I L) ∧ (R 61 0 = some 42) ∧ (zRD c n I) ∧ (tOk c n) ∧ (I 61 2 = p) ∧ (p ≤ n) ∧ (I 61 6 = b) ∧ (b ≤ 1) ∧ (R 61 7 = some k) ∧ (zDy zT2 zF2 k R S) ∧ (43 ≤ k ∧ k ≤ 52) ∧ (I k 0 = a9) ∧ (0 ≤ a9 ∧ a9 ≤ 200) ∧ (j = j_ ∧ j_ < a9) ∧ (I (k + 1) j_ = a_) ∧ (a_ ≤ 8) ∧ (I 61 5 = x) ∧ (0 ≤ x ∧ x ≤ 9) ∧ (I 61 3 = -1) ∧ (I k 10 = cc) ∧ (cc ≤ p) ∧ (∀ w, w < 2 → I (k + 6) (2 * j_ + w) = 0) ∧ ∀ (I' : ZI) (L' : ZI) (pl : Int), (I' 61 3 = tVz c n b a_ p (tFv a_ x)) → (tVz c n b a_ p (tFv a_ x) = -1 → I' 61 2 = tVp c n b a_ p (tFv a_ x) ∧ I' 61 5 = tXx c n b a_ p (tFv a_ x) x ∧ cc ≤ I' k 10 ∧ I' k 10 ≤ tVp c n b a_ p (tFv a_ x) ∧ tKs c n b a_ p (tFv a_ x) k j_ cc (I' k 10).toNat I' L') → (∀ c j : Nat, ¬ (c = 61 ∧ j = 2) → ¬ (c = 61 ∧ j = 3) → ¬ (c = 61 ∧ j = 5) → ¬ (c = k ∧ j = 10) → ¬ (c = k + 5 ∧ 2 * j_ ≤ j ∧ j < 2 * j_ + oCi a_ 1 (tFv a_ x)) → ¬ (c = k + 6 ∧ 2 * j_ ≤ j ∧ j < 2 * j_ + oCi a_ 1 (tFv a_ x)) → ¬ (c = k + 7 ∧ cc ≤ j) → I' c j = I c j) → (∀ c j : Nat, ¬ (c = k + 4 ∧ 5 * j_ ≤ j ∧ j < 5 * j_ + oCi a_ 0 (tFv a_ x)) → L' c j = L c j) → (I' 61 2 = pl) → (0 ≤ pl ∧ pl ≤ 4200) → Q none I' L' R S
theorem sn_K_vals : ZSnd 4 9 23 T_K_vals := ZSnd.loops (zT9_23 3) (by
  rintro args I L R S Q hz ⟨c, n, p, k, a9, j, j_, a_, x, b, cc, rfl, hS, hR, hT, htx, hX, hc, hp, hpn, hnb, hb, hob, hD, hk, ho0, ha9, hj, hkd, ha8, hx_, hxb, hf0, hcc, hcp, ht0, hQ⟩
  obtain ⟨x1, x2⟩ := id hX
  have hn4 := hc.1
  have hk1 := hk.1
  have hk2 := hk.2
  have hf5_ : tFn a_ ≤ 5 := (tFn_b a_ (by omega)).1
  have hfvu : Unit → (((a_ = 4 ∧ x < 2) ∨ (a_ = 6 ∧ x < 3)) ∧ tFv a_ x + 1 = tFn a_) ∨ (¬ ((a_ = 4 ∧ x < 2) ∨ (a_ = 6 ∧ x < 3)) ∧ tFv a_ x = tFn a_) := fun _ => by have hfn := tFn_b a_ (by omega); by_cases e : (a_ = 4 ∧ x < 2) ∨ (a_ = 6 ∧ x < 3); exact Or.inl ⟨e, by rw [tFv_1 e]; omega⟩; exact Or.inr ⟨e, tFv_0 e⟩
  have hfl : ((tsb (10 + a_)).length : Int) = tFn a_ := by unfold tFn; rw [if_pos (by omega)]
  have hfv_ : tFv a_ x ≤ tFn a_ := by unfold tFv; split <;> omega
  refine ⟨[59], fun nM tM lsM stM I1 L1 R1 S1 => match tM with
      | 59 => ∃ (i : Nat) (m : Nat) (f : Int) (wd : Nat) (nd : Nat) (cd : Nat) (u : Nat) (pl : Int), nM = ((6 - i), 0, 0) ∧ lsM = [some (zvr (61)), some (zvi (j_)), some (zvi (a_)), some (zvr (u)), some (zvi (m)), some (zvi (wd)), some (zvi (nd)), some (zvi (i))] ∧ stM = [] ∧ R1 = R ∧ S1 = S ∧ (m = tFv a_ x) ∧ (m ≤ 5) ∧ (i ≤ m) ∧ (u = 20 + a_) ∧ (-1 ≤ f ∧ f ≤ 9000) ∧ (wd ≤ 2 ∧ nd ≤ 5) ∧ (I1 61 3 = f) ∧ (I1 61 2 = pl) ∧ (0 ≤ pl ∧ pl ≤ 4200) ∧ ((f = -1 ∧ I1 61 2 = tVp c n b a_ p i ∧ ∀ j, j < i → tVf c n b a_ p j = -1) ∨ (f ≠ -1 ∧ f = tVz c n b a_ p m)) ∧ (f = -1 → wd = oCi a_ 1 i ∧ nd = tNc a_ i) ∧ (f = -1 → I1 k 10 = cd ∧ cc ≤ cd ∧ cd ≤ tVp c n b a_ p i) ∧ (f = -1 → I1 61 5 = tXx c n b a_ p i x) ∧ (f = -1 → tKs c n b a_ p i k j_ cc cd I1 L1) ∧ (f = -1 → ∀ w, oCi a_ 1 i ≤ w → w < 2 → I1 (k + 6) (2 * j_ + w) = 0) ∧ (∀ c j : Nat, ¬ (c = 61 ∧ j = 2) → ¬ (c = 61 ∧ j = 3) → ¬ (c = 61 ∧ j = 5) → ¬ (c = k ∧ j = 10) → ¬ (c = k + 5 ∧ 2 * j_ ≤ j ∧ j < 2 * j_ + oCi a_ 1 (tFv a_ x)) → ¬ (c = k + 6 ∧ 2 * j_ ≤ j ∧ j < 2 * j_ + oCi a_ 1 (tFv a_ x)) → ¬ (c = k + 7 ∧ cc ≤ j) → I1 c j = I c j) ∧ (∀ c j : Nat, ¬ (c = k + 4 ∧ 5 * j_ ≤ j ∧ j < 5 * j_ + oCi a_ 0 (tFv a_ x)) → L1 c j = L c j)
      | _ => False, rfl, ?_, ⟨?_, True.intro⟩⟩
  · refine And.intro (zA_61 hS) (zrdR (v := some k) hob ?_)
    refine And.intro (zDX hD 0 rfl) (Exists.intro _ (And.intro (zinl_ok (zT2_16 2)) (And.intro rfl ?_)))
    refine And.intro (zDX hD 0 rfl) (Exists.intro _ (And.intro (zinl_ok (zT2_14 1)) (And.intro rfl ?_)))
    refine And.intro (by omega) ⟨(fun h1_5_2 => False.elim (by omega)), fun h1_5_2 => ?_⟩
    refine And.intro (zDX hD 0 rfl) (zrd (v := a9) ho0 ?_)
    refine And.intro ⟨(by omega), (by omega)⟩ ⟨(fun h9_5_2 => False.elim (by omega)), fun h9_5_2 => ?_⟩
    refine And.intro (Or.inr rfl) ?_
    refine And.intro (zRb rfl) (zbf rfl ?_)
    refine And.intro (zDX hD 0 rfl) (zrdR (v := some (k + 1)) (zDR hD 0 rfl) ?_)
    refine And.intro (zDP hD 1 rfl rfl (by omega) (by omega)) (fun v13_5 e13_5 r13_5 => ?_)
    have f13_5 : v13_5 = a_ := (e13_5.trans ((congrArg (I (k + 1)) (by omega)).trans hkd))
    refine ⟨_, sn_O_fds.up (by decide), ?_⟩
    refine ⟨(v13_5 : Int), a_, rfl, (by omega), ?_⟩
    intro u10o p10hu
    have g10 : u10o - 10 = 10 + a_ := (by omega)
    have g10b : ((tsb (u10o - 10)).length : Int) = tFn a_ := (by rw [g10]; exact hfl)
    refine And.intro ⟨by omega, by omega⟩ ?_
    have c15 := tsb_l (u10o - 10)
    refine And.intro ⟨r13_5, (zRb rfl)⟩ ⟨fun h22 => ?_, fun h22 => ?_⟩
    · refine And.intro ⟨r13_5, (zRb rfl)⟩ ⟨fun h36 => ?_, fun h36 => ?_⟩
      · refine ⟨((6 - (0 : Nat)), 0, 0), [some (zvr (61)), some (zvi (j_)), some (zvi (a_)), some (zvr (u10o)), some (zvi ((tFv a_ x))), some (zvi ((0 : Nat))), some (zvi ((0 : Nat))), some (zvi ((0 : Nat)))], ⟨rfl, (congrArg (fun z => some (zvi z)) (by omega)), (congrArg (fun z => some (zvi z)) (by omega)), rfl, (congrArg (fun z => some (zvi z)) (by have z := hfvu (); omega)), rfl, rfl, rfl, rfl⟩, 0, (tFv a_ x), (-1), 0, 0, cc, u10o, p, rfl, rfl, rfl, rfl, rfl, (by omega), (by omega), (by omega), (by omega), (by omega), (by omega), hf0, hp, (by omega), (Or.inl ⟨rfl, hp, fun j h => absurd h (Nat.not_lt_zero j)⟩), (fun _ => ⟨rfl, by unfold tNc; split <;> rfl⟩), (fun _ => ⟨hcc, Nat.le_refl _, hcp⟩), (fun _ => hx_.trans (tXx_f (fun w => absurd w.2 (Nat.lt_irrefl 0))).symm), (fun _ => tKs_0), (fun _ w _ h => ht0 w h), (fun c j h0 h1 h2 h3 h4 h5 h6 => rfl), (fun c j h0 => rfl)⟩
      · refine And.intro (zA_61 hS) (zrd (v := x) hx_ ?_)
        refine And.intro ⟨(by omega), (zRb rfl)⟩ ⟨fun h44 => ?_, fun h44 => ?_⟩
        · refine ⟨((6 - (0 : Nat)), 0, 0), [some (zvr (61)), some (zvi (j_)), some (zvi (a_)), some (zvr (u10o)), some (zvi ((tFv a_ x))), some (zvi ((0 : Nat))), some (zvi ((0 : Nat))), some (zvi ((0 : Nat)))], ⟨rfl, (congrArg (fun z => some (zvi z)) (by omega)), (congrArg (fun z => some (zvi z)) (by omega)), rfl, (congrArg (fun z => some (zvi z)) (by have z := hfvu (); omega)), rfl, rfl, rfl, rfl⟩, 0, (tFv a_ x), (-1), 0, 0, cc, u10o, p, rfl, rfl, rfl, rfl, rfl, (by omega), (by omega), (by omega), (by omega), (by omega), (by omega), hf0, hp, (by omega), (Or.inl ⟨rfl, hp, fun j h => absurd h (Nat.not_lt_zero j)⟩), (fun _ => ⟨rfl, by unfold tNc; split <;> rfl⟩), (fun _ => ⟨hcc, Nat.le_refl _, hcp⟩), (fun _ => hx_.trans (tXx_f (fun w => absurd w.2 (Nat.lt_irrefl 0))).symm), (fun _ => tKs_0), (fun _ w _ h => ht0 w h), (fun c j h0 h1 h2 h3 h4 h5 h6 => rfl), (fun c j h0 => rfl)⟩
        · refine ⟨((6 - (0 : Nat)), 0, 0), [some (zvr (61)), some (zvi (j_)), some (zvi (a_)), some (zvr (u10o)), some (zvi ((tFv a_ x))), some (zvi ((0 : Nat))), some (zvi ((0 : Nat))), some (zvi ((0 : Nat)))], ⟨rfl, (congrArg (fun z => some (zvi z)) (by omega)), (congrArg (fun z => some (zvi z)) (by omega)), rfl, (congrArg (fun z => some (zvi z)) (by have z := hfvu (); omega)), rfl, rfl, rfl, rfl⟩, 0, (tFv a_ x), (-1), 0, 0, cc, u10o, p, rfl, rfl, rfl, rfl, rfl, (by omega), (by omega), (by omega), (by omega), (by omega), (by omega), hf0, hp, (by omega), (Or.inl ⟨rfl, hp, fun j h => absurd h (Nat.not_lt_zero j)⟩), (fun _ => ⟨rfl, by unfold tNc; split <;> rfl⟩), (fun _ => ⟨hcc, Nat.le_refl _, hcp⟩), (fun _ => hx_.trans (tXx_f (fun w => absurd w.2 (Nat.lt_irrefl 0))).symm), (fun _ => tKs_0), (fun _ w _ h => ht0 w h), (fun c j h0 h1 h2 h3 h4 h5 h6 => rfl), (fun c j h0 => rfl)⟩
    · refine And.intro (zA_61 hS) (zrd (v := x) hx_ ?_)
      refine And.intro ⟨(by omega), (zRb rfl)⟩ ⟨fun h30 => ?_, fun h30 => ?_⟩
      · refine ⟨((6 - (0 : Nat)), 0, 0), [some (zvr (61)), some (zvi (j_)), some (zvi (a_)), some (zvr (u10o)), some (zvi ((tFv a_ x))), some (zvi ((0 : Nat))), some (zvi ((0 : Nat))), some (zvi ((0 : Nat)))], ⟨rfl, (congrArg (fun z => some (zvi z)) (by omega)), (congrArg (fun z => some (zvi z)) (by omega)), rfl, (congrArg (fun z => some (zvi z)) (by have z := hfvu (); omega)), rfl, rfl, rfl, rfl⟩, 0, (tFv a_ x), (-1), 0, 0, cc, u10o, p, rfl, rfl, rfl, rfl, rfl, (by omega), (by omega), (by omega), (by omega), (by omega), (by omega), hf0, hp, (by omega), (Or.inl ⟨rfl, hp, fun j h => absurd h (Nat.not_lt_zero j)⟩), (fun _ => ⟨rfl, by unfold tNc; split <;> rfl⟩), (fun _ => ⟨hcc, Nat.le_refl _, hcp⟩), (fun _ => hx_.trans (tXx_f (fun w => absurd w.2 (Nat.lt_irrefl 0))).symm), (fun _ => tKs_0), (fun _ w _ h => ht0 w h), (fun c j h0 h1 h2 h3 h4 h5 h6 => rfl), (fun c j h0 => rfl)⟩
      · refine And.intro ⟨r13_5, (zRb rfl)⟩ ⟨fun h36 => ?_, (fun h36 => False.elim (by omega))⟩
        refine ⟨((6 - (0 : Nat)), 0, 0), [some (zvr (61)), some (zvi (j_)), some (zvi (a_)), some (zvr (u10o)), some (zvi ((tFv a_ x))), some (zvi ((0 : Nat))), some (zvi ((0 : Nat))), some (zvi ((0 : Nat)))], ⟨rfl, (congrArg (fun z => some (zvi z)) (by omega)), (congrArg (fun z => some (zvi z)) (by omega)), rfl, (congrArg (fun z => some (zvi z)) (by have z := hfvu (); omega)), rfl, rfl, rfl, rfl⟩, 0, (tFv a_ x), (-1), 0, 0, cc, u10o, p, rfl, rfl, rfl, rfl, rfl, (by omega), (by omega), (by omega), (by omega), (by omega), (by omega), hf0, hp, (by omega), (Or.inl ⟨rfl, hp, fun j h => absurd h (Nat.not_lt_zero j)⟩), (fun _ => ⟨rfl, by unfold tNc; split <;> rfl⟩), (fun _ => ⟨hcc, Nat.le_refl _, hcp⟩), (fun _ => hx_.trans (tXx_f (fun w => absurd w.2 (Nat.lt_irrefl 0))).symm), (fun _ => tKs_0), (fun _ w _ h => ht0 w h), (fun c j h0 h1 h2 h3 h4 h5 h6 => rfl), (fun c j h0 => rfl)⟩
  · rintro nM lsM stM I1 L1 R1 S1 hz1 ⟨i, m, f, wd, nd, cd, u, pl, rfl, rfl, rfl, rfl, rfl, hm, hm5, hi, hu, hfb, hwb, hfv, hpl1, hpb, hst, hwv, hcd, hxx, hvs, ht1, fr, frL⟩
    have hmi : i < m → i < tFn a_ := fun h => by omega
    have os := fun (_ : Unit) (h : i < m) => tNc_s a_ (by omega) i (by omega)
    have o86 := fun (_ : Unit) (h : i < m) => tFc_86 a_ (by omega) i (by omega)
    have hme0 : oCi a_ 0 (tFv a_ x) = oCi a_ 0 m := by rw [hm]
    have hnc : Unit → a_ ≠ 0 → tNc a_ i = oCi a_ 0 i ∧ tNc a_ m = oCi a_ 0 m := fun _ h => ⟨if_neg h, if_neg h⟩
    have hme1 : oCi a_ 1 (tFv a_ x) = oCi a_ 1 m := by rw [hm]
    have om0 := fun (_ : Unit) (h : i < m) => tNc_m0 a_ (by omega) m (by omega) i h
    have om1 := fun (_ : Unit) (h : i < m) => tNc_m1 a_ (by omega) m (by omega) i h
    have vl : Unit → f = -1 → tVp c n b a_ p i ≤ n ∧ p ≤ tVp c n b a_ p i := fun _ h => by rcases hst with z | z; exact tVp_le hc hpn z.2.2; exfalso; omega
    have hu2 : u - 10 = 10 + a_ := by omega
    have hul : ((tsb (u - 10)).length : Int) = tFn a_ := by rw [hu2]; exact hfl
    have hcu : (((tsb (u - 10)).getD (i : Int).toNat 0 : Nat) : Int) = tFc a_ i := by rw [hu2]; rfl
    refine And.intro ⟨(by omega), (by omega)⟩ ⟨fun h63 => ?_, fun h63 => ?_⟩
    · refine hQ _ _ (pl : Int) ?_ ?_ (fun c j h0 h1 h2 h3 h4 h5 h6 => ((fr c j h0 h1 h2 h3 (by omega) (by omega) (by omega)).trans rfl)) (fun c j h0 => ((frL c j (by omega)).trans rfl)) hpl1 (by first | omega | (have z := vl () (by omega); omega))
      · rcases hst with z | z
        · first
          | (rw [← hm, tVz_at (i := i) (by omega) z.2.2 (by rw [tVf_g w82.1]; omega), tVf_g w82.1]
             exact w82.2)
          | (rw [← hm, tVz_no (fun j hj => z.2.2 j (by omega))]
             exact hfv.trans z.1)
        · first
          | (exfalso; omega)
          | (rw [← hm]
             exact hfv.trans z.2)
      · intro h9
        rw [← hm] at h9 ⊢
        rcases hst with z | z
        · first
          | (exfalso
             rw [tVz_at (i := i) (by omega) z.2.2 (by rw [tVf_g w82.1]; omega), tVf_g w82.1] at h9
             omega)
          | (obtain rfl : i = m := (by omega)
             have y := hcd z.1
             have y3 := hvs z.1
             refine ⟨z.2.1, hxx z.1, by omega, by omega, ?_⟩
             rw [y.1]
             exact y3)
        · exfalso; omega
    · refine And.intro (zA_61 hS) (zrd (v := f) hfv ?_)
      refine And.intro ⟨(by omega), (zRb rfl)⟩ ⟨fun h71 => ?_, fun h71 => ?_⟩
      · refine hQ _ _ (pl : Int) ?_ ?_ (fun c j h0 h1 h2 h3 h4 h5 h6 => ((fr c j h0 h1 h2 h3 (by omega) (by omega) (by omega)).trans rfl)) (fun c j h0 => ((frL c j (by omega)).trans rfl)) hpl1 (by first | omega | (have z := vl () (by omega); omega))
        · rcases hst with z | z
          · first
            | (rw [← hm, tVz_at (i := i) (by omega) z.2.2 (by rw [tVf_g w82.1]; omega), tVf_g w82.1]
               exact w82.2)
            | (rw [← hm, tVz_no (fun j hj => z.2.2 j (by omega))]
               exact hfv.trans z.1)
          · first
            | (exfalso; omega)
            | (rw [← hm]
               exact hfv.trans z.2)
        · intro h9
          rw [← hm] at h9 ⊢
          rcases hst with z | z
          · first
            | (exfalso
               rw [tVz_at (i := i) (by omega) z.2.2 (by rw [tVf_g w82.1]; omega), tVf_g w82.1] at h9
               omega)
            | (obtain rfl : i = m := (by omega)
               have y := hcd z.1
               have y3 := hvs z.1
               refine ⟨z.2.1, hxx z.1, by omega, by omega, ?_⟩
               rw [y.1]
               exact y3)
          · exfalso; omega
      · refine And.intro (zA_61 hS) ⟨_, sn_K_gap2.up (by decide), ?_⟩
        refine ⟨c, n, (tVp c n b a_ p i), b, rfl, hS, hR, htx, (by first | exact (zRD_fr hX (fun c j h => ((fr c j (by omega) (by omega) (by omega) (by omega) (by omega) (by omega) (by omega)).trans rfl))) | (clear hQ; grind [xu])), (by first | exact hc | (clear hQ; grind [xu])), (by rcases hst with z | z; exact z.2.1; exfalso; omega), (by have z := vl () (by omega); show tVp c n b a_ p i ≤ 5000; omega), ((fr 61 6 (by omega) (by omega) (by omega) (by omega) (by omega) (by omega) (by omega)).trans hnb), (by omega), (Eq.trans (b := (f : Int)) hfv (by omega)), ?_⟩
        intro I75o pl75o p75hg p75bfr p75bbhpl9 p75bbbhpb9
        rcases p75hg with w82 | w82
        · refine And.intro (zA_61 hS) (zrd (v := (-1)) w82.2.1 ?_)
          refine And.intro ⟨(zRb rfl), (zRb rfl)⟩ (zbt rfl ?_)
          refine And.intro ⟨⟨by omega, by omega⟩, by omega, by omega⟩ ?_
          have c90 := tsb_b (u - 10) (i : Int).toNat
          refine And.intro ⟨(by omega), (zRb rfl)⟩ ⟨fun h95 => ?_, fun h95 => ?_⟩
          · have t95 : ¬ tFc a_ i = 84 := (by omega)
            have t95b : tNc a_ (i + 1) = tNc a_ i + 1 ∧ oCi a_ 1 (i + 1) = oCi a_ 1 i ∧ tNc a_ i ≤ 4 := (by have z := os () (by omega); omega)
            have t95bb : a_ = 0 ∨ oCi a_ 0 i < oCi a_ 0 m ∧ tNc a_ i = oCi a_ 0 i := (by by_cases e : a_ = 0; exact Or.inl e; (have z := om0 () (by omega); have z2 := hnc () e; right; omega))
            have t95bbb : (tFc a_ i = 86 ↔ a_ = 0) ∧ 0 ≤ tFc a_ i ∧ tFc a_ i ≤ 126 := (by have z := o86 () (by omega); omega)
            have t95bbbb : nd = tNc a_ i := (by have z := hwv (by omega); exact z.2)
            refine And.intro ⟨⟨by omega, by omega⟩, by omega, by omega⟩ ?_
            have c116 := tsb_b (u - 10) (i : Int).toNat
            refine And.intro (zA_61 hS) ⟨_, sn_K_num2.up (by decide), ?_⟩
            refine ⟨c, n, (tGp c n b a_ p i), k, a9, (j_ : Int), j_, ((((tsb (u - 10)).getD (i : Int).toNat 0 : Nat) : Int) : Int), (nd : Int), nd, rfl, hS, hR, (zStf hT (fun c j h1 h2 => ⟨((p75bfr c j (by omega) (by omega)).trans ((fr c j (by omega) (by omega) (by omega) (by omega) (by omega) (by omega) (by omega)).trans rfl)), ((frL c j (by omega)).trans rfl)⟩)), htx, (by first | exact (zRD_fr hX (fun c j h => ((p75bfr c j (by omega) (by omega)).trans ((fr c j (by omega) (by omega) (by omega) (by omega) (by omega) (by omega) (by omega)).trans rfl)))) | (clear hQ; grind [xu])), (by first | exact hc | (clear hQ; grind [xu])), w82.2.2, (by have z := tGe_le hc w82.1; show tGe _ _ _ _ ≤ 5000; omega), hob, hD, (by omega), ((p75bfr k 0 (by omega) (by omega)).trans ((fr k 0 (by omega) (by omega) (by omega) (by omega) (by omega) (by omega) (by omega)).trans ho0)), (by omega), (by omega), (by omega), (by omega), (Eq.trans (b := ((-1) : Int)) w82.2.1 (by omega)), ?_⟩
            intro I121o L121o pl121o p121hf p121bhok p121bbfr p121bbbfrL p121bbbbhpl9 p121bbbbbhpb9
            have g121 : ∀ j : Nat, (((tsb (u - 10)).getD (i : Int).toNat 0 : Nat) : Int) ≠ 86 ∧ j = 5 * j_ + nd → 5 * j_ ≤ j ∧ j < 5 * j_ + oCi a_ 0 (tFv a_ x) := (fun j e => by rw [hme0]; have z := t95bbb; have z2 := t95bb; have z3 := t95bbbb; have z4 := e.1; rw [hcu] at z4; omega)
            have g121b : I121o 61 3 = tNf c n (tGp c n b a_ p i) (tLen (tFc a_ i)) (tLo (tFc a_ i)) (tHi (tFc a_ i)) := (by have z := p121hf; rw [hcu] at z; exact z)
            have g121bb : tNf c n (tGp c n b a_ p i) (tLen (tFc a_ i)) (tLo (tFc a_ i)) (tHi (tFc a_ i)) = -1 → I121o 61 2 = tNe c n (tGp c n b a_ p i) (tLen (tFc a_ i)) ∧ (tFc a_ i = 86 → I121o 61 5 = tNv c n (tGp c n b a_ p i) (tLen (tFc a_ i))) ∧ (tFc a_ i ≠ 86 → L121o (k + 4) (5 * j_ + nd) = tNv c n (tGp c n b a_ p i) (tLen (tFc a_ i)) ∧ I121o 61 5 = I75o 61 5) := (by have z := p121bhok; rw [hcu] at z; exact z)
            refine ⟨((6 - (i + 1)), 0, 0), zlt6 (by omega), [some (zvr (61)), some (zvi (j_)), some (zvi (a_)), some (zvr (u)), some (zvi (m)), some (zvi (wd)), some (zvi ((nd + 1))), some (zvi ((i + 1)))], ⟨rfl, rfl, rfl, rfl, rfl, rfl, rfl, rfl, rfl⟩, (i + 1), m, (tVf c n b a_ p i), wd, (nd + 1), cd, u, pl121o, rfl, rfl, rfl, rfl, rfl, (by omega), (by omega), (by omega), (by omega), (by have z := tVf_b1 (i := i) (b := b) (a := a_) (q := p) hc (vl () (by omega)).1; exact z), (by omega), ?_, p121bbbbhpl9, (by have z := vl () (by omega); have z2 := tGe_le hc w82.1; have z3 : tGp c n b a_ p i = tGe c n (tVp c n b a_ p i) b := rfl; omega), ?_, ?_, ?_, ?_, ?_, ?_, (by first | exact (fun c j h0 h1 h2 h3 h4 h5 h6 => (p121bbfr c j h0 h1 h2).trans ((p75bfr c j h0 h1).trans (fr c j h0 h1 h2 h3 h4 h5 h6))) | exact (fun c j h0 h1 h2 h3 h4 h5 h6 => (p102bbfr c j h0 h1 h3 (fun w => h4 ⟨w.1, g102 j w.2⟩) (fun w => h5 ⟨w.1, g102 j w.2⟩) (fun w => h6 ⟨w.1, Nat.le_trans g102b w.2⟩)).trans ((p75bfr c j h0 h1).trans (fr c j h0 h1 h2 h3 h4 h5 h6)))), (by first | exact (fun c j h0 => (p121bbbfrL c j (fun w => h0 ⟨w.1, g121 j w.2⟩)).trans (frL c j h0)) | exact frL)⟩
            · first
              | exact p102hf.trans (tVf_t w82.1 t95).symm
              | exact g121b.trans (tVf_n w82.1 t95).symm
            · rcases hst with z | z
              · by_cases e : tVf c n b a_ p i = -1
                · refine Or.inl ⟨e, ?_, fun j hj => ?_⟩
                  · first
                    | (rw [tVp_t t95]; exact (p102bhok ((tVf_t w82.1 t95).symm.trans e)).1)
                    | (rw [tVp_n t95]; exact (g121bb ((tVf_n w82.1 t95).symm.trans e)).1)
                  · by_cases e2 : j = i
                    · rw [e2]; exact e
                    · exact z.2.2 j (by omega)
                · exact Or.inr ⟨e, (tVz_at (i := i) (by omega) z.2.2 e).symm⟩
              · exfalso; omega
            · intro h9
              have o := os () (by omega)
              have z := hwv (by omega)
              exact ⟨by omega, by omega⟩
            · intro h9
              have z := hcd (by omega)
              have g := tGe_gt (p := tVp c n b a_ p i) (b := b) hc
              have gd : tGp c n b a_ p i = tGe c n (tVp c n b a_ p i) b := rfl
              first
              | (have y := p102bhok ((tVf_t w82.1 t95).symm.trans h9)
                 have y2 := tXe_l hc ((tVf_t w82.1 t95).symm.trans h9)
                 refine ⟨y.2.1.trans (by omega), by omega, ?_⟩
                 rw [tVp_t t95]
                 omega)
              | (have y := tVf_w hc h9
                 exact ⟨((p121bbfr k _ (by omega) (by omega) (by omega)).trans ((p75bfr k _ (by omega) (by omega)).trans rfl)).trans z.1, z.2.1, by omega⟩)
            · intro h9
              have z := hxx (by omega)
              have o := o86 () (by omega)
              first
              | (rw [tXx_f (by omega)]
                 rw [tXx_f (by omega)] at z
                 exact ((p121bbfr 61 _ (by omega) (by omega) (by omega)).trans ((p75bfr 61 _ (by omega) (by omega)).trans rfl)).trans z)
              | (have y := g121bb ((tVf_n w82.1 t95).symm.trans h9)
                 by_cases e : a_ = 0
                 · have e2 : i = 0 := by omega
                   rw [tXx_t ⟨e, by omega⟩]
                   have y2 := y.2.1 (by omega)
                   rw [e2] at y2
                   subst e
                   exact y2
                 · rw [tXx_f (by omega)]
                   rw [tXx_f (by omega)] at z
                   exact ((y.2.2 (by omega)).2).trans ((p75bfr 61 5 (by omega) (by omega)).trans z))
            · intro h9
              have z := hwv (by omega)
              first
              | (have y := p102bhok ((tVf_t w82.1 t95).symm.trans h9)
                 rw [z.1] at y
                 exact tKs_t (by omega) (hmi (by omega)) (by omega) (hvs (by omega)) (hcd (by omega)).2.1 rfl (fun j hj => (p102bbfr (k + 5) j (by omega) (by omega) (by omega) (by omega) (by omega) (by omega)).trans (p75bfr (k + 5) j (by omega) (by omega))) (fun j hj => (p102bbfr (k + 6) j (by omega) (by omega) (by omega) (by omega) (by omega) (by omega)).trans (p75bfr (k + 6) j (by omega) (by omega))) (fun j hj => (p102bbfr (k + 7) j (by omega) (by omega) (by omega) (by omega) (by omega) (by omega)).trans (p75bfr (k + 7) j (by omega) (by omega))) (fun j => rfl) t95 y.2.2.2.1 y.2.2.1 y.2.2.2.2)
              | (have y := g121bb ((tVf_n w82.1 t95).symm.trans h9)
                 have o := o86 () (by omega)
                 exact tKs_n (by omega) (hmi (by omega)) (by omega) (hvs (by omega)) (fun j => (p121bbfr (k + 5) j (by omega) (by omega) (by omega)).trans (p75bfr (k + 5) j (by omega) (by omega))) (fun j => (p121bbfr (k + 6) j (by omega) (by omega) (by omega)).trans (p75bfr (k + 6) j (by omega) (by omega))) (fun j => (p121bbfr (k + 7) j (by omega) (by omega) (by omega)).trans (p75bfr (k + 7) j (by omega) (by omega))) (fun j hj => p121bbbfrL (k + 4) j (by omega)) t95 (fun h => by have y2 := (y.2.2 (by omega)).1; rw [z.2] at y2; exact y2))
            · intro h9 w hw1 hw2
              have z := hwv (by omega)
              have o := os () (by omega)
              refine Eq.trans ?_ (ht1 (by omega) w (by omega) hw2)
              first
              | exact (p102bbfr (k + 6) _ (by omega) (by omega) (by omega) (by omega) (by omega) (by omega)).trans (p75bfr (k + 6) _ (by omega) (by omega))
              | exact (p121bbfr (k + 6) _ (by omega) (by omega) (by omega)).trans (p75bfr (k + 6) _ (by omega) (by omega))
          · have t95 : tFc a_ i = 84 := (by omega)
            have t95b : oCi a_ 1 (i + 1) = oCi a_ 1 i + 1 ∧ tNc a_ (i + 1) = tNc a_ i ∧ oCi a_ 1 i ≤ 1 := (by have z := os () (by omega); omega)
            have t95bb : oCi a_ 1 i < oCi a_ 1 m := (by have z := om1 () (by omega); omega)
            have t95bbb : wd = oCi a_ 1 i ∧ cc ≤ cd := (by have z := hwv (by omega); have z2 := hcd (by omega); exact ⟨z.1, z2.2.1⟩)
            refine And.intro (zA_61 hS) ⟨_, sn_K_txt2.up (by decide), ?_⟩
            refine ⟨c, n, (tGp c n b a_ p i), k, a9, (j_ : Int), j_, (wd : Int), wd, cd, rfl, hS, hR, htx, (by first | exact (zRD_fr hX (fun c j h => ((p75bfr c j (by omega) (by omega)).trans ((fr c j (by omega) (by omega) (by omega) (by omega) (by omega) (by omega) (by omega)).trans rfl)))) | (clear hQ; grind [xu])), (by first | exact hc | (clear hQ; grind [xu])), w82.2.2, (by have z := tGe_le hc w82.1; show tGe _ _ _ _ ≤ 5000; omega), hob, hD, (by omega), ((p75bfr k 0 (by omega) (by omega)).trans ((fr k 0 (by omega) (by omega) (by omega) (by omega) (by omega) (by omega) (by omega)).trans ho0)), (by omega), (by omega), (by omega), (Eq.trans (b := ((-1) : Int)) w82.2.1 (by omega)), (((p75bfr k _ (by omega) (by omega)).trans rfl).trans (hcd (by omega)).1), (by have z := tGe_gt (p := tVp c n b a_ p i) (b := b) hc; have z2 := (hcd (by omega)).2.2; show cd ≤ tGe _ _ _ _; omega), (((p75bfr (k + 6) _ (by omega) (by omega)).trans rfl).trans (ht1 (by omega) wd (by have z := hwv (by omega); omega) (by have z := os () (by omega); have z2 := hwv (by omega); omega))), ?_⟩
            intro I102o pl102o p102hf p102bhok p102bbfr p102bbbhpl9 p102bbbbhpb9
            have g102 : ∀ j : Nat, j = 2 * j_ + wd → 2 * j_ ≤ j ∧ j < 2 * j_ + oCi a_ 1 (tFv a_ x) := (fun j e => by rw [hme1]; have z := t95bbb; have z2 := t95bb; omega)
            have g102b : cc ≤ cd := t95bbb.2
            refine ⟨((6 - (i + 1)), 0, 0), zlt6 (by omega), [some (zvr (61)), some (zvi (j_)), some (zvi (a_)), some (zvr (u)), some (zvi (m)), some (zvi ((wd + 1))), some (zvi (nd)), some (zvi ((i + 1)))], ⟨rfl, rfl, rfl, rfl, rfl, rfl, rfl, rfl, rfl⟩, (i + 1), m, (tVf c n b a_ p i), (wd + 1), nd, (cd + tXl c (tGp c n b a_ p i)), u, pl102o, rfl, rfl, rfl, rfl, rfl, (by omega), (by omega), (by omega), (by omega), (by have z := tVf_b1 (i := i) (b := b) (a := a_) (q := p) hc (vl () (by omega)).1; exact z), (by omega), ?_, p102bbbhpl9, (by have z := vl () (by omega); have z2 := tGe_le hc w82.1; have z3 : tGp c n b a_ p i = tGe c n (tVp c n b a_ p i) b := rfl; omega), ?_, ?_, ?_, ?_, ?_, ?_, (by first | exact (fun c j h0 h1 h2 h3 h4 h5 h6 => (p121bbfr c j h0 h1 h2).trans ((p75bfr c j h0 h1).trans (fr c j h0 h1 h2 h3 h4 h5 h6))) | exact (fun c j h0 h1 h2 h3 h4 h5 h6 => (p102bbfr c j h0 h1 h3 (fun w => h4 ⟨w.1, g102 j w.2⟩) (fun w => h5 ⟨w.1, g102 j w.2⟩) (fun w => h6 ⟨w.1, Nat.le_trans g102b w.2⟩)).trans ((p75bfr c j h0 h1).trans (fr c j h0 h1 h2 h3 h4 h5 h6)))), (by first | exact (fun c j h0 => (p121bbbfrL c j (fun w => h0 ⟨w.1, g121 j w.2⟩)).trans (frL c j h0)) | exact frL)⟩
            · first
              | exact p102hf.trans (tVf_t w82.1 t95).symm
              | exact g121b.trans (tVf_n w82.1 t95).symm
            · rcases hst with z | z
              · by_cases e : tVf c n b a_ p i = -1
                · refine Or.inl ⟨e, ?_, fun j hj => ?_⟩
                  · first
                    | (rw [tVp_t t95]; exact (p102bhok ((tVf_t w82.1 t95).symm.trans e)).1)
                    | (rw [tVp_n t95]; exact (g121bb ((tVf_n w82.1 t95).symm.trans e)).1)
                  · by_cases e2 : j = i
                    · rw [e2]; exact e
                    · exact z.2.2 j (by omega)
                · exact Or.inr ⟨e, (tVz_at (i := i) (by omega) z.2.2 e).symm⟩
              · exfalso; omega
            · intro h9
              have o := os () (by omega)
              have z := hwv (by omega)
              exact ⟨by omega, by omega⟩
            · intro h9
              have z := hcd (by omega)
              have g := tGe_gt (p := tVp c n b a_ p i) (b := b) hc
              have gd : tGp c n b a_ p i = tGe c n (tVp c n b a_ p i) b := rfl
              first
              | (have y := p102bhok ((tVf_t w82.1 t95).symm.trans h9)
                 have y2 := tXe_l hc ((tVf_t w82.1 t95).symm.trans h9)
                 refine ⟨y.2.1.trans (by omega), by omega, ?_⟩
                 rw [tVp_t t95]
                 omega)
              | (have y := tVf_w hc h9
                 exact ⟨((p102bbfr k _ (by omega) (by omega) (by omega) (by omega) (by omega) (by omega)).trans ((p75bfr k _ (by omega) (by omega)).trans rfl)).trans z.1, z.2.1, by omega⟩)
            · intro h9
              have z := hxx (by omega)
              have o := o86 () (by omega)
              first
              | (rw [tXx_f (by omega)]
                 rw [tXx_f (by omega)] at z
                 exact ((p102bbfr 61 _ (by omega) (by omega) (by omega) (by omega) (by omega) (by omega)).trans ((p75bfr 61 _ (by omega) (by omega)).trans rfl)).trans z)
              | (have y := g121bb ((tVf_n w82.1 t95).symm.trans h9)
                 by_cases e : a_ = 0
                 · have e2 : i = 0 := by omega
                   rw [tXx_t ⟨e, by omega⟩]
                   have y2 := y.2.1 (by omega)
                   rw [e2] at y2
                   subst e
                   exact y2
                 · rw [tXx_f (by omega)]
                   rw [tXx_f (by omega)] at z
                   exact ((y.2.2 (by omega)).2).trans ((p75bfr 61 5 (by omega) (by omega)).trans z))
            · intro h9
              have z := hwv (by omega)
              first
              | (have y := p102bhok ((tVf_t w82.1 t95).symm.trans h9)
                 rw [z.1] at y
                 exact tKs_t (by omega) (hmi (by omega)) (by omega) (hvs (by omega)) (hcd (by omega)).2.1 rfl (fun j hj => (p102bbfr (k + 5) j (by omega) (by omega) (by omega) (by omega) (by omega) (by omega)).trans (p75bfr (k + 5) j (by omega) (by omega))) (fun j hj => (p102bbfr (k + 6) j (by omega) (by omega) (by omega) (by omega) (by omega) (by omega)).trans (p75bfr (k + 6) j (by omega) (by omega))) (fun j hj => (p102bbfr (k + 7) j (by omega) (by omega) (by omega) (by omega) (by omega) (by omega)).trans (p75bfr (k + 7) j (by omega) (by omega))) (fun j => rfl) t95 y.2.2.2.1 y.2.2.1 y.2.2.2.2)
              | (have y := g121bb ((tVf_n w82.1 t95).symm.trans h9)
                 have o := o86 () (by omega)
                 exact tKs_n (by omega) (hmi (by omega)) (by omega) (hvs (by omega)) (fun j => (p121bbfr (k + 5) j (by omega) (by omega) (by omega)).trans (p75bfr (k + 5) j (by omega) (by omega))) (fun j => (p121bbfr (k + 6) j (by omega) (by omega) (by omega)).trans (p75bfr (k + 6) j (by omega) (by omega))) (fun j => (p121bbfr (k + 7) j (by omega) (by omega) (by omega)).trans (p75bfr (k + 7) j (by omega) (by omega))) (fun j hj => p121bbbfrL (k + 4) j (by omega)) t95 (fun h => by have y2 := (y.2.2 (by omega)).1; rw [z.2] at y2; exact y2))
            · intro h9 w hw1 hw2
              have z := hwv (by omega)
              have o := os () (by omega)
              refine Eq.trans ?_ (ht1 (by omega) w (by omega) hw2)
              first
              | exact (p102bbfr (k + 6) _ (by omega) (by omega) (by omega) (by omega) (by omega) (by omega)).trans (p75bfr (k + 6) _ (by omega) (by omega))
              | exact (p121bbfr (k + 6) _ (by omega) (by omega) (by omega)).trans (p75bfr (k + 6) _ (by omega) (by omega))
        · refine And.intro (zA_61 hS) (zrd (v := ((tVp c n b a_ p i))) w82.2 ?_)
          refine And.intro ⟨(by omega), (zRb rfl)⟩ ⟨(fun h83 => False.elim (by omega)), fun h83 => ?_⟩
          refine hQ _ _ (pl75o : Int) ?_ ?_ (fun c j h0 h1 h2 h3 h4 h5 h6 => ((p75bfr c j h0 h1).trans ((fr c j h0 h1 h2 h3 (by omega) (by omega) (by omega)).trans rfl))) (fun c j h0 => ((frL c j (by omega)).trans rfl)) p75bbhpl9 (by first | omega | (have z := vl () (by omega); omega))
          · rcases hst with z | z
            · first
              | (rw [← hm, tVz_at (i := i) (by omega) z.2.2 (by rw [tVf_g w82.1]; omega), tVf_g w82.1]
                 exact w82.2)
              | (rw [← hm, tVz_no (fun j hj => z.2.2 j (by omega))]
                 exact hfv.trans z.1)
            · first
              | (exfalso; omega)
              | (rw [← hm]
                 exact hfv.trans z.2)
          · intro h9
            rw [← hm] at h9 ⊢
            rcases hst with z | z
            · first
              | (exfalso
                 rw [tVz_at (i := i) (by omega) z.2.2 (by rw [tVf_g w82.1]; omega), tVf_g w82.1] at h9
                 omega)
              | (obtain rfl : i = m := (by omega)
                 have y := hcd z.1
                 have y3 := hvs z.1
                 refine ⟨z.2.1, hxx z.1, by omega, by omega, ?_⟩
                 rw [y.1]
                 exact y3)
            · exfalso; omega)
