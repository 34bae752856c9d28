/-! srt -/
def T_S_sort : ZT := fun args I L R S Q => ∃ (x : Int) (n : Nat), args = [zvr 81, zvi x] ∧ (zSh S) ∧ (zRs R) ∧ (x = n ∧ n ≤ 1020) ∧ ∀ (I' : ZI), (zSe n (I' 81) (I 81)) → (zSo 1 n (I' 81)) → (∀ c j : Nat, ¬ c = 81 → I' c j = I c j) → Q none I' L R S
theorem sn_S_sort : ZSnd 1 11 49 T_S_sort := ZSnd.loops (zT11_49 0) (by
  rintro args I L R S Q hz ⟨x, n, rfl, hS, hR, hx, hQ⟩
  refine ⟨[4, 10, 23], fun nM tM lsM stM I1 L1 R1 S1 => match tM with
      | 4 => ∃ (g : Nat), nM = (g, 2000, 2000) ∧ lsM = [some (zvr (81)), some (zvi (n)), some (zvi (g)), none, none, none] ∧ stM = [] ∧ L1 = L ∧ R1 = R ∧ S1 = S ∧ (g ≤ n ∧ g ≤ 1020) ∧ (zSe n (I1 81) (I 81)) ∧ (g = 0 → zSo 1 n (I1 81)) ∧ (∀ c j : Nat, ¬ c = 81 → I1 c j = I c j)
      | 10 => ∃ (g : Nat) (i : Nat), nM = (g, (1021 - i), 2000) ∧ lsM = [some (zvr (81)), some (zvi (n)), some (zvi (g)), some (zvi (i)), none, none] ∧ stM = [] ∧ L1 = L ∧ R1 = R ∧ S1 = S ∧ (1 ≤ g ∧ g ≤ n ∧ i ≤ n ∧ g ≤ i) ∧ (zSe n (I1 81) (I 81)) ∧ (zSo g i (I1 81)) ∧ (∀ c j : Nat, ¬ c = 81 → I1 c j = I c j)
      | 23 => ∃ (g : Nat) (i : Nat) (v : Int) (p : Nat), nM = (g, (1021 - i), p) ∧ lsM = [some (zvr (81)), some (zvi (n)), some (zvi (g)), some (zvi (i)), some (zvi (v)), some (zvi (p))] ∧ stM = [] ∧ L1 = L ∧ R1 = R ∧ S1 = S ∧ (1 ≤ g ∧ g ≤ n ∧ i < n ∧ p ≤ i ∧ g ≤ i) ∧ (r32 v) ∧ (zSl n p v (I1 81) (I 81)) ∧ (zSv g i p v (I1 81)) ∧ (∀ c j : Nat, ¬ c = 81 → I1 c j = I c j)
      | _ => False, rfl, ?_, ⟨?_, ?_, ?_, True.intro⟩⟩
  · refine And.intro ⟨(by omega), (zRb rfl), (by decide)⟩ (zdv (by omega) (fun q2 e2 => ?_))
    refine ⟨(q2.toNat, 2000, 2000), [some (zvr (81)), some (zvi (n)), some (zvi (q2.toNat)), none, none, none], ⟨rfl, (congrArg (fun z => some (zvi z)) (by omega)), (congrArg (fun z => some (zvi z)) (by omega)), rfl⟩, q2.toNat, rfl, rfl, rfl, rfl, rfl, rfl, (by omega), zSe_r, (fun q e a b h1 h2 => by omega), (fun c j h0 => rfl)⟩
  · rintro nM lsM stM I1 L1 R1 S1 hz1 ⟨g, rfl, rfl, rfl, rfl, rfl, rfl, hg, hse, hgo, fr⟩
    refine And.intro (by omega) ⟨fun h5 => ?_, fun h5 => ?_⟩
    · refine hQ _ hse (hgo (by omega)) (fun c j h0 => ((fr c j (by omega)).trans rfl))
    · refine ⟨(g, (1021 - g), 2000), zlt6 (by omega), [some (zvr (81)), some (zvi (n)), some (zvi (g)), some (zvi (g)), none, none], ⟨rfl, rfl, rfl, rfl, rfl⟩, g, g, rfl, rfl, rfl, rfl, rfl, rfl, (by omega), hse, (fun e a b h1 h2 => by omega), (fun c j h0 => ((fr c j (by omega)).trans rfl))⟩
  · rintro nM lsM stM I1 L1 R1 S1 hz1 ⟨g, i, rfl, rfl, rfl, rfl, rfl, rfl, hg, hse, hso, fr⟩
    refine And.intro ⟨(by omega), (by omega)⟩ ⟨fun h12 => ?_, fun h12 => ?_⟩
    · refine And.intro ⟨(by omega), (zRb rfl), (by decide)⟩ (zdv (by omega) (fun q73 e73 => ?_))
      refine ⟨(q73.toNat, 2000, 2000), zlt6 (by omega), [some (zvr (81)), some (zvi (n)), some (zvi (q73.toNat)), none, none, none], ⟨rfl, rfl, (congrArg (fun z => some (zvi z)) (by omega)), rfl⟩, q73.toNat, rfl, rfl, rfl, rfl, rfl, rfl, (by omega), hse, (by intro q; have e : g = 1 := (by omega); subst e; intro e2 a b h1 h2; exact hso rfl a b h1 (by omega)), (fun c j h0 => ((fr c j (by omega)).trans rfl))⟩
    · refine And.intro (zP_81 hS (by omega) (by omega)) (fun v17 e17 r17 => ?_)
      have f17 : v17 = I1 81 i := (e17.trans (congrArg (I1 81) (by omega)))
      refine ⟨(g, (1021 - i), i), zlt6 (by omega), [some (zvr (81)), some (zvi (n)), some (zvi (g)), some (zvi (i)), some (zvi (v17)), some (zvi (i))], ⟨rfl, rfl, rfl, rfl, rfl, rfl, rfl⟩, g, i, v17, i, rfl, rfl, rfl, rfl, rfl, rfl, (by omega), r17, (by rw [f17]; exact zSl_0 hse (by omega)), (zSv_0 hso), (fun c j h0 => ((fr c j (by omega)).trans rfl))⟩
  · rintro nM lsM stM I1 L1 R1 S1 hz1 ⟨g, i, v, p, rfl, rfl, rfl, rfl, rfl, rfl, hg, hr, hsl, hsv, fr⟩
    refine And.intro ⟨(by omega), (by omega)⟩ ⟨fun h26 => ?_, fun h26 => ?_⟩
    · refine And.intro ⟨(zx0 rfl), (zP_81 hS (by omega) (by omega))⟩ ⟨_, (zWi (by omega)), ?_⟩
      refine ⟨(g, (1021 - (i + 1)), 2000), zlt6 (by omega), [some (zvr (81)), some (zvi (n)), some (zvi (g)), some (zvi ((i + 1))), none, none], ⟨rfl, rfl, rfl, rfl, rfl⟩, g, (i + 1), rfl, rfl, rfl, rfl, rfl, rfl, (by omega), (by rw [show ((p : Int)).toNat = p from rfl, xu_upF]; exact zSl_e hsl (by omega)), (by rw [show ((p : Int)).toNat = p from rfl, xu_upF]; exact zSo_s hsv (by omega) (by first | exact Or.inl (by omega) | exact Or.inr ⟨p - g, by omega, by omega⟩)), (fun c j h0 => (zxu h0 ((fr c j (by omega)).trans rfl)))⟩
    · refine And.intro (zP_81 hS (by omega) (by omega)) (fun v34 e34 r34 => ?_)
      have f34 : v34 = I1 81 (p - g) := (e34.trans (congrArg (I1 81) (by omega)))
      refine And.intro ⟨r34, (by omega)⟩ ⟨fun h37 => ?_, fun h37 => ?_⟩
      · refine And.intro ⟨(zx0 rfl), (zP_81 hS (by omega) (by omega))⟩ ⟨_, (zWi (by omega)), ?_⟩
        refine ⟨(g, (1021 - (i + 1)), 2000), zlt6 (by omega), [some (zvr (81)), some (zvi (n)), some (zvi (g)), some (zvi ((i + 1))), none, none], ⟨rfl, rfl, rfl, rfl, rfl⟩, g, (i + 1), rfl, rfl, rfl, rfl, rfl, rfl, (by omega), (by rw [show ((p : Int)).toNat = p from rfl, xu_upF]; exact zSl_e hsl (by omega)), (by rw [show ((p : Int)).toNat = p from rfl, xu_upF]; exact zSo_s hsv (by omega) (by first | exact Or.inl (by omega) | exact Or.inr ⟨p - g, by omega, by omega⟩)), (fun c j h0 => (zxu h0 ((fr c j (by omega)).trans rfl)))⟩
      · refine And.intro (zP_81 hS (by omega) (by omega)) (fun v48 e48 r48 => ?_)
        have f48 : v48 = I1 81 (p - g) := (e48.trans (congrArg (I1 81) (by omega)))
        refine And.intro ⟨(zx0 rfl), (zP_81 hS (by omega) (by omega))⟩ ⟨_, (zWi r48), ?_⟩
        refine ⟨(g, (1021 - i), ((p - g) : Nat)), zlt6 (by omega), [some (zvr (81)), some (zvi (n)), some (zvi (g)), some (zvi (i)), some (zvi (v)), some (zvi (((p - g) : Nat)))], ⟨rfl, rfl, rfl, rfl, rfl, (congrArg (fun z => some (zvi z)) (by omega)), rfl⟩, g, i, v, (p - g), rfl, rfl, rfl, rfl, rfl, rfl, (by omega), hr, (by rw [f48, show ((p : Int)).toNat = p from rfl, xu_upF]; exact zSl_s hsl (by omega) (by omega) (by omega)), (by rw [f48, show ((p : Int)).toNat = p from rfl, xu_upF]; exact zSv_s hsv (by omega) (by omega) (by omega)), (fun c j h0 => (zxu h0 ((fr c j (by omega)).trans rfl)))⟩)
