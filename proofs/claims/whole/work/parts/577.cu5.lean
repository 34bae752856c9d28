/-! cu5 -/
def T_S_sortF : ZT := fun args I L R S Q => ∃ (k : Nat) (x : Int) (n : Nat), args = [zvr (k + 7), zvi x] ∧ (zSh S) ∧ (zRs R) ∧ (zDy zT1 zF1 k R S) ∧ (k = 106 ∨ k = 118) ∧ (x = n ∧ n ≤ 1950) ∧ ∀ (I' : ZI), (zSe n (I' (k + 7)) (I (k + 7))) → (zSo 1 n (I' (k + 7))) → (∀ c j : Nat, ¬ c = k + 7 → I' c j = I c j) → Q none I' L R S
theorem sn_S_sortF : ZSnd 1 11 49 T_S_sortF := ZSnd.loops (zT11_49 0) (by
  rintro args I L R S Q hz ⟨k, x, n, rfl, hS, hR, hD, hk, hx, hQ⟩
  have hk106 : 106 ≤ k := by omega
  have hk118 : k ≤ 118 := by omega
  refine ⟨[4, 10, 23], fun nM tM lsM stM I1 L1 R1 S1 => match tM with
      | 4 => ∃ (g : Nat), nM = (g, 2000, 2000) ∧ lsM = [some (zvr ((k + 7))), some (zvi (n)), some (zvi (g)), none, none, none] ∧ stM = [] ∧ L1 = L ∧ R1 = R ∧ S1 = S ∧ (g ≤ n ∧ g ≤ 1950) ∧ (zSe n (I1 (k + 7)) (I (k + 7))) ∧ (g = 0 → zSo 1 n (I1 (k + 7))) ∧ (∀ c j : Nat, ¬ c = k + 7 → I1 c j = I c j)
      | 10 => ∃ (g : Nat) (i : Nat), nM = (g, (1951 - i), 2000) ∧ lsM = [some (zvr ((k + 7))), some (zvi (n)), some (zvi (g)), some (zvi (i)), none, none] ∧ stM = [] ∧ L1 = L ∧ R1 = R ∧ S1 = S ∧ (1 ≤ g ∧ g ≤ n ∧ i ≤ n ∧ g ≤ i) ∧ (zSe n (I1 (k + 7)) (I (k + 7))) ∧ (zSo g i (I1 (k + 7))) ∧ (∀ c j : Nat, ¬ c = k + 7 → I1 c j = I c j)
      | 23 => ∃ (g : Nat) (i : Nat) (v : Int) (p : Nat), nM = (g, (1951 - i), p) ∧ lsM = [some (zvr ((k + 7))), some (zvi (n)), some (zvi (g)), some (zvi (i)), some (zvi (v)), some (zvi (p))] ∧ stM = [] ∧ L1 = L ∧ R1 = R ∧ S1 = S ∧ (1 ≤ g ∧ g ≤ n ∧ i < n ∧ p ≤ i ∧ g ≤ i) ∧ (r32 v) ∧ (zSl n p v (I1 (k + 7)) (I (k + 7))) ∧ (zSv g i p v (I1 (k + 7))) ∧ (∀ c j : Nat, ¬ c = k + 7 → I1 c j = I c j)
      | _ => False, rfl, ?_, ⟨?_, ?_, ?_, True.intro⟩⟩
  · refine And.intro ⟨(by omega), (zRb rfl), (by decide)⟩ (zdv (by omega) (fun q2 e2 => ?_))
    refine ⟨(q2.toNat, 2000, 2000), [some (zvr ((k + 7))), some (zvi (n)), some (zvi (q2.toNat)), none, none, none], ⟨rfl, (congrArg (fun z => some (zvi z)) (by omega)), (congrArg (fun z => some (zvi z)) (by omega)), rfl⟩, q2.toNat, rfl, rfl, rfl, rfl, rfl, rfl, (by omega), zSe_r, (fun q e a b h1 h2 => by omega), (fun c j h0 => rfl)⟩
  · rintro nM lsM stM I1 L1 R1 S1 hz1 ⟨g, rfl, rfl, rfl, rfl, rfl, rfl, hg, hse, hgo, fr⟩
    refine And.intro (by omega) ⟨fun h5 => ?_, fun h5 => ?_⟩
    · refine hQ _ hse (hgo (by omega)) (fun c j h0 => ((fr c j h0).trans rfl))
    · refine ⟨(g, (1951 - g), 2000), zlt6 (by omega), [some (zvr ((k + 7))), some (zvi (n)), some (zvi (g)), some (zvi (g)), none, none], ⟨rfl, rfl, rfl, rfl, rfl⟩, g, g, rfl, rfl, rfl, rfl, rfl, rfl, (by omega), hse, (fun e a b h1 h2 => by omega), (fun c j h0 => ((fr c j h0).trans rfl))⟩
  · rintro nM lsM stM I1 L1 R1 S1 hz1 ⟨g, i, rfl, rfl, rfl, rfl, rfl, rfl, hg, hse, hso, fr⟩
    refine And.intro ⟨(by omega), (by omega)⟩ ⟨fun h12 => ?_, fun h12 => ?_⟩
    · refine And.intro ⟨(by omega), (zRb rfl), (by decide)⟩ (zdv (by omega) (fun q73 e73 => ?_))
      refine ⟨(q73.toNat, 2000, 2000), zlt6 (by omega), [some (zvr ((k + 7))), some (zvi (n)), some (zvi (q73.toNat)), none, none, none], ⟨rfl, rfl, (congrArg (fun z => some (zvi z)) (by omega)), rfl⟩, q73.toNat, rfl, rfl, rfl, rfl, rfl, rfl, (by omega), hse, (by intro q; have e : g = 1 := (by omega); subst e; intro e2 a b h1 h2; exact hso rfl a b h1 (by omega)), (fun c j h0 => ((fr c j h0).trans rfl))⟩
    · refine And.intro (zDP hD 7 rfl rfl (by omega) (by omega)) (fun v17 e17 r17 => ?_)
      have f17 : v17 = I1 (k + 7) i := (e17.trans (congrArg (I1 (k + 7)) (by omega)))
      refine ⟨(g, (1951 - i), i), zlt6 (by omega), [some (zvr ((k + 7))), some (zvi (n)), some (zvi (g)), some (zvi (i)), some (zvi (v17)), some (zvi (i))], ⟨rfl, rfl, rfl, rfl, rfl, rfl, rfl⟩, g, i, v17, i, rfl, rfl, rfl, rfl, rfl, rfl, (by omega), r17, (by rw [f17]; exact zSl_0 hse (by omega)), (zSv_0 hso), (fun c j h0 => ((fr c j h0).trans rfl))⟩
  · rintro nM lsM stM I1 L1 R1 S1 hz1 ⟨g, i, v, p, rfl, rfl, rfl, rfl, rfl, rfl, hg, hr, hsl, hsv, fr⟩
    refine And.intro ⟨(by omega), (by omega)⟩ ⟨fun h26 => ?_, fun h26 => ?_⟩
    · refine And.intro ⟨(by show 40 ≤ _; omega), (zDP hD 7 rfl rfl (by omega) (by omega))⟩ ⟨_, (zWi (by omega)), ?_⟩
      refine ⟨(g, (1951 - (i + 1)), 2000), zlt6 (by omega), [some (zvr ((k + 7))), some (zvi (n)), some (zvi (g)), some (zvi ((i + 1))), none, none], ⟨rfl, rfl, rfl, rfl, rfl⟩, g, (i + 1), rfl, rfl, rfl, rfl, rfl, rfl, (by omega), (by rw [show ((p : Int)).toNat = p from rfl, xu_upF]; exact zSl_e hsl (by omega)), (by rw [show ((p : Int)).toNat = p from rfl, xu_upF]; exact zSo_s hsv (by omega) (by first | exact Or.inl (by omega) | exact Or.inr ⟨p - g, by omega, by omega⟩)), (fun c j h0 => (zxu h0 ((fr c j h0).trans rfl)))⟩
    · refine And.intro (zDP hD 7 rfl rfl (by omega) (by omega)) (fun v34 e34 r34 => ?_)
      have f34 : v34 = I1 (k + 7) (p - g) := (e34.trans (congrArg (I1 (k + 7)) (by omega)))
      refine And.intro ⟨r34, (by omega)⟩ ⟨fun h37 => ?_, fun h37 => ?_⟩
      · refine And.intro ⟨(by show 40 ≤ _; omega), (zDP hD 7 rfl rfl (by omega) (by omega))⟩ ⟨_, (zWi (by omega)), ?_⟩
        refine ⟨(g, (1951 - (i + 1)), 2000), zlt6 (by omega), [some (zvr ((k + 7))), some (zvi (n)), some (zvi (g)), some (zvi ((i + 1))), none, none], ⟨rfl, rfl, rfl, rfl, rfl⟩, g, (i + 1), rfl, rfl, rfl, rfl, rfl, rfl, (by omega), (by rw [show ((p : Int)).toNat = p from rfl, xu_upF]; exact zSl_e hsl (by omega)), (by rw [show ((p : Int)).toNat = p from rfl, xu_upF]; exact zSo_s hsv (by omega) (by first | exact Or.inl (by omega) | exact Or.inr ⟨p - g, by omega, by omega⟩)), (fun c j h0 => (zxu h0 ((fr c j h0).trans rfl)))⟩
      · refine And.intro (zDP hD 7 rfl rfl (by omega) (by omega)) (fun v48 e48 r48 => ?_)
        have f48 : v48 = I1 (k + 7) (p - g) := (e48.trans (congrArg (I1 (k + 7)) (by omega)))
        refine And.intro ⟨(by show 40 ≤ _; omega), (zDP hD 7 rfl rfl (by omega) (by omega))⟩ ⟨_, (zWi r48), ?_⟩
        refine ⟨(g, (1951 - i), ((p - g) : Nat)), zlt6 (by omega), [some (zvr ((k + 7))), some (zvi (n)), some (zvi (g)), some (zvi (i)), some (zvi (v)), some (zvi (((p - g) : Nat)))], ⟨rfl, rfl, rfl, rfl, rfl, (congrArg (fun z => some (zvi z)) (by omega)), rfl⟩, g, i, v, (p - g), rfl, rfl, rfl, rfl, rfl, rfl, (by omega), hr, (by rw [f48, show ((p : Int)).toNat = p from rfl, xu_upF]; exact zSl_s hsl (by omega) (by omega) (by omega)), (by rw [f48, show ((p : Int)).toNat = p from rfl, xu_upF]; exact zSv_s hsv (by omega) (by omega) (by omega)), (fun c j h0 => (zxu h0 ((fr c j h0).trans rfl)))⟩)
def T_U_ffs : ZT := fun args I L R S Q => ∃ (k : Nat) (w : List CuR) (nr : Nat) (rf : Nat → Nat → Int), args = [zvr k, zvr 104] ∧ (zSh S) ∧ (zRs R) ∧ (zSt I L) ∧ (zDy zT1 zF1 k R S) ∧ (k = 106 ∨ k = 118) ∧ (zUw k w I) ∧ (w.length ≤ 60) ∧ (cuG w) ∧ (zRT 104 30 nr rf I) ∧ (cuRg nr rf) ∧ ∀ (I' : ZI), (zFs k (cuAl w nr rf) I') → (∀ a b : Nat, a < b → (b : Int) < I' k 11 → I' (k + 7) a < I' (k + 7) b) → (I' k 11 ≤ 1950) → (∀ c j : Nat, ¬ (c = k ∧ j = 11) → ¬ c = k + 7 → I' c j = I c j) → Q none I' L R S
theorem sn_U_ffs : ZSnd 6 1 18 T_U_ffs := ZSnd.loops (zT1_18 5) (by
  rintro args I L R S Q hz ⟨k, w, nr, rf, rfl, hS, hR, hT, hD, hk, hW, hl, hG, hR1, hRg, hQ⟩
  have hk106 : 106 ≤ k := by omega
  have hk118 : k ≤ 118 := by omega
  have hT1 := zUw_T hW hl
  have hN := hT1.2.1
  refine ⟨[7, 28], fun nM tM lsM stM I1 L1 R1 S1 => match tM with
      | 7 => ∃ (i : Nat), nM = ((61 - i), 1, 0) ∧ lsM = [some (zvr (k)), some (zvr (104)), some (zvi (i)), none] ∧ stM = [] ∧ L1 = L ∧ R1 = R ∧ S1 = S ∧ (i ≤ w.length) ∧ (I1 k 11 ≤ cuT w.length i) ∧ (zFs k (cuPr w nr rf i (-1) 0) I1) ∧ (∀ c j : Nat, ¬ (c = k ∧ j = 11) → ¬ c = k + 7 → I1 c j = I c j)
      | 28 => ∃ (i : Nat) (j : Nat), nM = ((61 - i), 0, (61 - j)) ∧ lsM = [some (zvr (k)), some (zvr (104)), some (zvi (i)), some (zvi (j))] ∧ stM = [] ∧ L1 = L ∧ R1 = R ∧ S1 = S ∧ (i < w.length) ∧ (i < j ∧ j ≤ w.length) ∧ (I1 k 11 ≤ cuT w.length i + 3 + (j - 1 - i : Nat)) ∧ (zFs k (cuPr w nr rf i j 0) I1) ∧ (∀ c j : Nat, ¬ (c = k ∧ j = 11) → ¬ c = k + 7 → I1 c j = I c j)
      | _ => False, rfl, ?_, ⟨?_, ?_, True.intro⟩⟩
  · refine And.intro (zDX hD 0 rfl) ⟨_, (zWi (zRb rfl)), ?_⟩
    refine ⟨((61 - (0 : Nat)), 1, 0), [some (zvr (k)), some (zvr (104)), some (zvi ((0 : Nat))), none], ⟨rfl, rfl, rfl, rfl⟩, 0, rfl, rfl, rfl, rfl, rfl, rfl, (by omega), (by rw [zxe]; show (0 : Int) ≤ ((0 : Nat) : Int); omega), ⟨by rw [zxe]; decide, by rw [zxe]; exact zFt_0 (cuPr_0 hl)⟩, (fun c j h0 h1 => (zxcj h0 rfl))⟩
  · rintro nM lsM stM I1 L1 R1 S1 hz1 ⟨i, rfl, rfl, rfl, rfl, rfl, rfl, hi, hp2, hF3, fr⟩
    have ht := cuT_b hl (show i ≤ 60 by omega)
    have hp0 := hF3.1
    refine And.intro (zDX hD 0 rfl) (zrdR (v := some (k + 1)) (zDR hD 0 rfl) ?_)
    refine And.intro (zDX hD 1 rfl) (zrd (v := (w.length)) ((fr (k + 1) 2 (by omega) (by omega)).trans hN) ?_)
    refine And.intro ⟨(by omega), (by omega)⟩ ⟨fun h15 => ?_, fun h15 => ?_⟩
    · refine And.intro (zDX hD 0 rfl) (zrdR (v := some (k + 7)) (zDR hD 4 rfl) ?_)
      refine And.intro (zDX hD 0 rfl) (fun v63 e63 r63 => ?_)
      refine ⟨_, sn_S_sortF.up (by decide), ?_⟩
      refine ⟨k, (v63 : Int), (I1 k 11).toNat, rfl, hS, hR, hD, (by first | exact hk | (clear hQ; grind [xu])), (by omega), ?_⟩
      intro I66o p66hse p66bhso p66bbfr
      refine hQ _ ?_ ?_ (by have e2 := p66bbfr k 11 (by omega); omega) (fun c j h0 h1 => ((p66bbfr c j h1).trans ((fr c j h0 h1).trans rfl)))
      · have e : i = w.length := (by omega)
        subst e
        have g := zFt_sr hF3.2 p66hse p66bhso
        have e2 := p66bbfr k 11 (by omega)
        unfold zFs
        rw [e2]
        exact ⟨hp0, zFt_e g.1 (fun x => cuPr_e (Nat.le_refl _) x)⟩
      · have e2 := p66bbfr k 11 (by omega)
        rw [e2]
        intro a b h1 h2
        exact (zFt_sr hF3.2 p66hse p66bhso).2 a b h1 (by omega)
    · refine And.intro (zDX hD 0 rfl) ⟨_, sn_U_ffo.up (by decide), ?_⟩
      refine ⟨_, w, nr, rf, (i : Int), i, (I1 k 11), rfl, hS, hR, (zStf hT (fun c j h1 h2 => ⟨((fr c j (by omega) (by omega)).trans rfl), rfl⟩)), hD, (by first | exact hk | (clear hQ; grind [xu])), (by first | exact (zUw_fr hW (fun c j h => ((fr c j (by omega) (by omega)).trans rfl))) | (clear hQ; grind [xu])), (by omega), (by first | exact hG | (clear hQ; grind [xu])), (by first | exact (zRT_fr hR1 (fun c j h => ((fr c j (by omega) (by omega)).trans rfl))) | exact (zRT_fr hT1 (fun c j h => ((fr c j (by omega) (by omega)).trans rfl))) | (clear hQ; grind [xu])), (by first | exact hRg | (clear hQ; grind [xu])), (by omega), rfl, (by have e : cuT w.length (i + 1) = cuT w.length i + 3 + (w.length - 1 - i) := rfl; have z := cuT_b hl (show i + 1 ≤ 60 by omega); omega), (by first | exact (zFs_fr hF3 (fun c j h => rfl)) | (clear hQ; grind [xu])), ?_⟩
      intro I21o p21hm4 p21bhF2 p21bbfr
      refine ⟨((61 - i), 0, (61 - (i + 1))), zlt6 (by omega), [some (zvr (k)), some (zvr (104)), some (zvi (i)), some (zvi ((i + 1)))], ⟨rfl, rfl, rfl, rfl, rfl⟩, i, (i + 1), rfl, rfl, rfl, rfl, rfl, rfl, (by omega), (by omega), (by omega), (zFs_e p21bhF2 (fun x => by rw [show (((i + 1 : Nat)) : Int) = (i : Int) + 1 by omega]; exact cuPr_s hl x)), (fun c j h0 h1 => ((p21bbfr c j h0 h1).trans ((fr c j h0 h1).trans rfl)))⟩
  · rintro nM lsM stM I1 L1 R1 S1 hz1 ⟨i, j, rfl, rfl, rfl, rfl, rfl, rfl, hi, hij, hp2, hF3, fr⟩
    have ht := cuT_b hl (show i + 1 ≤ 60 by omega)
    have ht2 : cuT w.length (i + 1) = cuT w.length i + 3 + (w.length - 1 - i) := rfl
    have hp0 := hF3.1
    refine And.intro (zDX hD 0 rfl) (zrdR (v := some (k + 1)) (zDR hD 0 rfl) ?_)
    refine And.intro (zDX hD 1 rfl) (zrd (v := (w.length)) ((fr (k + 1) 2 (by omega) (by omega)).trans hN) ?_)
    refine And.intro ⟨(by omega), (by omega)⟩ ⟨fun h36 => ?_, fun h36 => ?_⟩
    · refine ⟨((61 - (i + 1)), 1, 0), zlt6 (by omega), [some (zvr (k)), some (zvr (104)), some (zvi ((i + 1))), none], ⟨rfl, rfl, rfl, rfl⟩, (i + 1), rfl, rfl, rfl, rfl, rfl, rfl, (by omega), (by rw [ht2]; omega), (zFs_e hF3 (fun x => cuPr_i hl (by omega) x)), (fun c j h0 h1 => ((fr c j h0 h1).trans rfl))⟩
    · refine And.intro (zDX hD 0 rfl) ⟨_, sn_U_ffp.up (by decide), ?_⟩
      refine ⟨_, w, nr, rf, (i : Int), i, (j : Int), j, (I1 k 11), rfl, hS, hR, (zStf hT (fun c j h1 h2 => ⟨((fr c j (by omega) (by omega)).trans rfl), rfl⟩)), hD, (by first | exact hk | (clear hQ; grind [xu])), (by first | exact (zUw_fr hW (fun c j h => ((fr c j (by omega) (by omega)).trans rfl))) | (clear hQ; grind [xu])), (by omega), (by first | exact hG | (clear hQ; grind [xu])), (by first | exact (zRT_fr hR1 (fun c j h => ((fr c j (by omega) (by omega)).trans rfl))) | exact (zRT_fr hT1 (fun c j h => ((fr c j (by omega) (by omega)).trans rfl))) | (clear hQ; grind [xu])), (by first | exact hRg | (clear hQ; grind [xu])), (by omega), (by omega), (by omega), rfl, (by omega), (by first | exact (zFs_fr hF3 (fun c j h => rfl)) | (clear hQ; grind [xu])), ?_⟩
      intro I43o p43hm4 p43bhF2 p43bbfr
      refine ⟨((61 - i), 0, (61 - (j + 1))), zlt6 (by omega), [some (zvr (k)), some (zvr (104)), some (zvi (i)), some (zvi ((j + 1)))], ⟨rfl, rfl, rfl, rfl, rfl⟩, i, (j + 1), rfl, rfl, rfl, rfl, rfl, rfl, (by omega), (by omega), (by omega), (zFs_e p43bhF2 (fun x => by rw [show (((j + 1 : Nat)) : Int) = (j : Int) + 1 by omega]; exact cuPr_b hl (by omega) x)), (fun c j h0 h1 => ((p43bbfr c j h0 h1).trans ((fr c j h0 h1).trans rfl)))⟩)
