/-! xf -/
def T_V_rgd : ZT := fun args I L R S Q => ∃ (k : Nat) (w : List CuR) (a : Int) (i : Nat) (v : Int), args = [zvr k, zvi a, zvl v] ∧ (zSh S) ∧ (zRs R) ∧ (zDy zT14 zF14 k R S) ∧ (zCk k w I L) ∧ (cuG w) ∧ (a = i ∧ i < w.length) ∧ (cg w i 0 = 3) ∧ (0 ≤ v ∧ v ≤ 100000) ∧ ∀ (u : Int), ((u = 1 ∧ zex (fun s => s < w.length ∧ cuRn w i v s)) ∨ (u = 0 ∧ ¬ zex (fun s => s < w.length ∧ cuRn w i v s))) → Q (some (zvi (u))) I L R S
theorem sn_V_rgd : ZSnd 5 14 19 T_V_rgd := ZSnd.loops (zT14_19 4) (by
  rintro args I L R S Q hz ⟨k, w, a, i, v, rfl, hS, hR, hd, hCk, hG, hi, hc3, hv0, hQ⟩
  have hk5 := hd.1
  obtain ⟨hc0, hcl, hck⟩ := id hCk
  refine ⟨[3, 86], fun nM tM lsM stM I1 L1 R1 S1 => match tM with
      | 3 => ∃ (m : Nat), nM = ((61 - m), 3, 0) ∧ lsM = [some (zvr (k)), some (zvi (a)), some (zvl (v)), none, some (zvi (m)), none, none, none, none] ∧ stM = [] ∧ I1 = I ∧ L1 = L ∧ R1 = R ∧ S1 = S ∧ (m ≤ w.length) ∧ (∀ s : Nat, s < m → ¬ cuRn w i v s)
      | 86 => ∃ (m : Nat) (t : Int) (u : Int) (n : Nat), nM = ((61 - m), (2 - n), 0) ∧ lsM = [some (zvr (k)), some (zvi (a)), some (zvl (v)), none, some (zvi (m)), some (zvl (t)), none, some (zvi (u)), some (zvi (8 * i + n))] ∧ stM = [] ∧ I1 = I ∧ L1 = L ∧ R1 = R ∧ S1 = S ∧ (m < w.length) ∧ (∀ s : Nat, s < m → ¬ cuRn w i v s) ∧ ((cg w m 0 = 2 ∨ cg w m 0 = 1) ∧ cg w m 1 = cg w i 1) ∧ (t = cuRa (cg w m 0) - cuRa (cg w i 0) - v ∧ -100300 ≤ t ∧ t ≤ 300) ∧ ((n = 0 ∧ ((u = 1 ∧ 0 ≤ t) ∨ (u = 0 ∧ t < 0))) ∨ (n = 1 ∧ 0 ≤ t ∧ ((u = 1 ∧ cuPG w m (cuE w i 1 0) (cuE w i 0 0) ≤ t * t) ∨ (u = 0 ∧ t * t < cuPG w m (cuE w i 1 0) (cuE w i 0 0)))))
      | _ => False, rfl, ?_, ⟨?_, ?_, True.intro⟩⟩
  · refine ⟨((61 - (0 : Nat)), 3, 0), [some (zvr (k)), some (zvi (a)), some (zvl (v)), none, some (zvi ((0 : Nat))), none, none, none, none], ⟨rfl, rfl, rfl, rfl, rfl⟩, 0, rfl, rfl, rfl, rfl, rfl, rfl, rfl, (by omega), (fun s h => absurd h (Nat.not_lt_zero s))⟩
  · rintro nM lsM stM I1 L1 R1 S1 hz1 ⟨m, rfl, rfl, rfl, rfl, rfl, rfl, rfl, hm, hno⟩
    refine And.intro (zDX hd 0 rfl) (zrd (v := (w.length)) hc0 ?_)
    refine And.intro ⟨(by omega), (by omega)⟩ ⟨fun h9 => ?_, fun h9 => ?_⟩
    · refine And.intro (Or.inl rfl) ?_
      refine hQ _ ?_
      · first
        | exact Or.inr ⟨rfl, fun q => by obtain ⟨s, q1, q2⟩ := q; exact hno s (by omega) q2⟩
        | (refine Or.inl ⟨rfl, Exists.intro m ⟨by omega, (cuRn_i hG (show i < w.length by omega) (show cg w i 0 ≠ 0 by omega)).mpr ?_⟩⟩
           rw [← htt.1]
           omega)
    · refine And.intro (zDX hd 0 rfl) (zrdR (v := some (k + 3)) (zDR hd 2 rfl) ?_)
      refine And.intro (zDP hd 3 rfl rfl (by omega) (by omega)) (fun v18 e18 r18 => ?_)
      have f18 : v18 = cuKd (cg w m 0) := (e18.trans ((congrArg (I1 (k + 3)) (show _ = m by omega)).trans (hck m (by omega)).1.2.2.1))
      have f18b : 0 ≤ v18 ∧ v18 ≤ 2 := (by have z := cuKd_c (cg w m 0); omega)
      have f18bb : (cg w m 0 = 3 ∧ v18 = 2) ∨ (cg w m 0 = 0 ∧ v18 = 0) ∨ (cg w m 0 ≠ 3 ∧ cg w m 0 ≠ 0 ∧ v18 = 1) := (by have z := cuKd_c (cg w m 0); rcases z with z | z | z; exact Or.inl ⟨z.1, by omega⟩; exact Or.inr (Or.inl ⟨z.1, by omega⟩); exact Or.inr (Or.inr ⟨z.1, z.2.1, by omega⟩))
      refine And.intro ⟨r18, (zRb rfl)⟩ ⟨fun h20 => ?_, fun h20 => ?_⟩
      · refine ⟨((61 - (m + 1)), 3, 0), zlt6 (by omega), [some (zvr (k)), some (zvi (a)), some (zvl (v)), none, some (zvi ((m + 1))), none, none, none, none], ⟨rfl, rfl, rfl, rfl, rfl⟩, (m + 1), rfl, rfl, rfl, rfl, rfl, rfl, rfl, (by omega), (fun s hs => by by_cases e : s = m; (subst e; intro q; have z := (cuRn_i hG (show i < w.length by omega) (show cg w i 0 ≠ 0 by omega)).mp q; omega); exact hno s (by omega))⟩
      · refine And.intro (zDX hd 0 rfl) (zrdR (v := some (k + 8)) (zDR hd 7 rfl) ?_)
        refine And.intro (zDP hd 8 rfl rfl (by omega) (by omega)) (fun v29 e29 r29 => ?_)
        have f29 : v29 = cuRa (cg w m 0) := (e29.trans ((congrArg (L1 (k + 8)) (show _ = m by omega)).trans (hck m (by omega)).2.2.2.2))
        have f29b : 0 ≤ v29 ∧ v29 ≤ 300 := (by have z := cuRa_b (c := cg w m 0); omega)
        have f29bb : 100 ≤ v29 := (by have z := (hG m (by omega)).1; have z2 : v29 = cuRa (cg w m 0) := (by omega); rw [z2]; unfold cuRa; split <;> (try split) <;> (try split) <;> (try split) <;> omega)
        refine ⟨_, _, ⟨zW6i r29, zW6i (zRL rfl)⟩, fun z31 c31 => ?_⟩
        refine And.intro c31.2.2 ⟨(fun h32 => False.elim (by omega)), fun h32 => ?_⟩
        refine And.intro (zDX hd 0 rfl) ⟨_, sn_V_one.up (by decide), ?_⟩
        refine ⟨_, w, (a : Int), i, (m : Int), m, rfl, hS, hR, hd, (by first | exact (zCk_fr hCk (fun c j h => rfl) (fun c j h => rfl)) | (clear hQ; grind [xu])), (by first | exact hG | (clear hQ; grind [xu])), (by omega), (by omega), ?_⟩
        intro v39o p39hv
        refine And.intro (by omega) ⟨fun h42 => ?_, fun h42 => ?_⟩
        · refine And.intro (zDX hd 0 rfl) (zrdR (v := some (k + 8)) (zDR hd 7 rfl) ?_)
          refine And.intro (zDP hd 8 rfl rfl (by omega) (by omega)) (fun v54 e54 r54 => ?_)
          have f54 : v54 = cuRa (cg w m 0) := (e54.trans ((congrArg (L1 (k + 8)) (show _ = m by omega)).trans (hck m (by omega)).2.2.2.2))
          have f54b : 0 ≤ v54 ∧ v54 ≤ 300 := (by have z := cuRa_b (c := cg w m 0); omega)
          have f54bb : 100 ≤ v54 := (by have z := (hG m (by omega)).1; have z2 : v54 = cuRa (cg w m 0) := (by omega); rw [z2]; unfold cuRa; split <;> (try split) <;> (try split) <;> (try split) <;> omega)
          refine And.intro (zDX hd 0 rfl) (zrdR (v := some (k + 8)) (zDR hd 7 rfl) ?_)
          refine And.intro (zDP hd 8 rfl rfl (by omega) (by omega)) (fun v60 e60 r60 => ?_)
          have f60 : v60 = cuRa (cg w i 0) := (e60.trans ((congrArg (L1 (k + 8)) (show _ = i by omega)).trans (hck i (by omega)).2.2.2.2))
          have f60b : 0 ≤ v60 ∧ v60 ≤ 300 := (by have z := cuRa_b (c := cg w i 0); omega)
          have f60bb : 100 ≤ v60 := (by have z := (hG i (by omega)).1; have z2 : v60 = cuRa (cg w i 0) := (by omega); rw [z2]; unfold cuRa; split <;> (try split) <;> (try split) <;> (try split) <;> omega)
          refine ⟨_, _, ⟨zW6i (by omega), zW6i (zRL rfl)⟩, fun z69 c69 => ?_⟩
          refine And.intro c69.2.2 ⟨fun h70 => ?_, fun h70 => ?_⟩
          · refine ⟨((61 - m), (2 - (0 : Nat)), 0), zlt6 (by omega), [some (zvr (k)), some (zvi (a)), some (zvl (v)), none, some (zvi (m)), some (zvl ((v54 - v60 - v))), none, some (zvi ((0 : Int))), some (zvi (8 * i + (0 : Nat)))], ⟨rfl, rfl, rfl, rfl, (congrArg (fun z => some (zvl z)) (by omega)), rfl, (congrArg (fun z => some (zvi z)) (by omega)), rfl⟩, m, (v54 - v60 - v), 0, 0, rfl, rfl, rfl, rfl, rfl, rfl, rfl, (by omega), hno, (by have z := (hG m (by omega)).1; omega), (by omega), (by omega)⟩
          · refine ⟨((61 - m), (2 - (0 : Nat)), 0), zlt6 (by omega), [some (zvr (k)), some (zvi (a)), some (zvl (v)), none, some (zvi (m)), some (zvl ((v54 - v60 - v))), none, some (zvi ((1 : Int))), some (zvi (8 * i + (0 : Nat)))], ⟨rfl, rfl, rfl, rfl, (congrArg (fun z => some (zvl z)) (by omega)), rfl, (congrArg (fun z => some (zvi z)) (by omega)), rfl⟩, m, (v54 - v60 - v), 1, 0, rfl, rfl, rfl, rfl, rfl, rfl, rfl, (by omega), hno, (by have z := (hG m (by omega)).1; omega), (by omega), (by omega)⟩
        · refine ⟨((61 - (m + 1)), 3, 0), zlt6 (by omega), [some (zvr (k)), some (zvi (a)), some (zvl (v)), none, some (zvi ((m + 1))), none, none, none, none], ⟨rfl, rfl, rfl, rfl, rfl⟩, (m + 1), rfl, rfl, rfl, rfl, rfl, rfl, rfl, (by omega), (fun s hs => by by_cases e : s = m; (subst e; intro q; have z := (cuRn_i hG (show i < w.length by omega) (show cg w i 0 ≠ 0 by omega)).mp q; omega); exact hno s (by omega))⟩
  · rintro nM lsM stM I1 L1 R1 S1 hz1 ⟨m, t, u, n, rfl, rfl, rfl, rfl, rfl, rfl, rfl, hm, hno, hmc, htt, hu⟩
    refine And.intro (zDX hd 0 rfl) (zrdR (v := some (k + 5)) (zDR hd 4 rfl) ?_)
    refine And.intro (zDP hd 5 rfl rfl (by omega) (by omega)) (fun v97 e97 r97 => ?_)
    have f97 : v97 = cuCn (cg w i 0) := (e97.trans ((congrArg (I1 (k + 5)) (show _ = i by omega)).trans (hck i (by omega)).1.2.2.2.2))
    have f97b : (cg w i 0 = 0 ∧ v97 = 2) ∨ (cg w i 0 ≠ 0 ∧ v97 = 1) := (by have z := cuCn_c (cg w i 0); rcases z with z | z; exact Or.inl ⟨z.1, by omega⟩; exact Or.inr ⟨z.1, by omega⟩)
    have f97bb : 1 ≤ v97 ∧ v97 ≤ 2 := (by omega)
    refine And.intro ⟨(by omega), (by omega)⟩ ⟨fun h99 => ?_, fun h99 => ?_⟩
    · refine And.intro (by omega) ⟨fun h147 => ?_, fun h147 => ?_⟩
      · refine ⟨((61 - (m + 1)), 3, 0), zlt6 (by omega), [some (zvr (k)), some (zvi (a)), some (zvl (v)), none, some (zvi ((m + 1))), none, none, none, none], ⟨rfl, rfl, rfl, rfl, rfl⟩, (m + 1), rfl, rfl, rfl, rfl, rfl, rfl, rfl, (by omega), (fun s hs => by by_cases e : s = m; (subst e; intro q; have z := (cuRn_i hG (show i < w.length by omega) (show cg w i 0 ≠ 0 by omega)).mp q; rw [← htt.1] at z; omega); exact hno s (by omega))⟩
      · refine And.intro (Or.inr rfl) ?_
        refine hQ _ ?_
        · first
          | exact Or.inr ⟨rfl, fun q => by obtain ⟨s, q1, q2⟩ := q; exact hno s (by omega) q2⟩
          | (refine Or.inl ⟨rfl, Exists.intro m ⟨by omega, (cuRn_i hG (show i < w.length by omega) (show cg w i 0 ≠ 0 by omega)).mpr ?_⟩⟩
             rw [← htt.1]
             omega)
    · refine And.intro (by omega) ⟨fun h104 => ?_, fun h104 => ?_⟩
      · refine And.intro (by omega) ⟨fun h147 => ?_, (fun h147 => False.elim (by omega))⟩
        refine ⟨((61 - (m + 1)), 3, 0), zlt6 (by omega), [some (zvr (k)), some (zvi (a)), some (zvl (v)), none, some (zvi ((m + 1))), none, none, none, none], ⟨rfl, rfl, rfl, rfl, rfl⟩, (m + 1), rfl, rfl, rfl, rfl, rfl, rfl, rfl, (by omega), (fun s hs => by by_cases e : s = m; (subst e; intro q; have z := (cuRn_i hG (show i < w.length by omega) (show cg w i 0 ≠ 0 by omega)).mp q; rw [← htt.1] at z; omega); exact hno s (by omega))⟩
      · refine And.intro (zDX hd 0 rfl) (zrdR (v := some (k + 6)) (zDR hd 5 rfl) ?_)
        refine And.intro (zDP hd 6 rfl rfl (by omega) (by omega)) (fun v114 e114 r114 => ?_)
        have f114 : v114 = cuE w i 1 n := (e114.trans ((congrArg (L1 (k + 6)) (show _ = 8 * i + n by omega)).trans (zCi_c (hck i (by omega)) (by have z := cuCn_c (cg w i 0); omega)).1))
        have f114b : 0 ≤ v114 ∧ v114 ≤ 15000 := (by have z := cuE_b (ax := 1) (e := n) hG (show i < w.length by omega); omega)
        refine And.intro (zDX hd 0 rfl) (zrdR (v := some (k + 7)) (zDR hd 6 rfl) ?_)
        refine And.intro (zDP hd 7 rfl rfl (by omega) (by omega)) (fun v121 e121 r121 => ?_)
        have f121 : v121 = cuE w i 0 n := (e121.trans ((congrArg (L1 (k + 7)) (show _ = 8 * i + n by omega)).trans (zCi_c (hck i (by omega)) (by have z := cuCn_c (cg w i 0); omega)).2))
        have f121b : 0 ≤ v121 ∧ v121 ≤ 15000 := (by have z := cuE_b (ax := 0) (e := n) hG (show i < w.length by omega); omega)
        refine And.intro (zDX hd 0 rfl) ⟨_, sn_V_pfl.up (by decide), ?_⟩
        refine ⟨_, w, (v114 : Int), (v121 : Int), (m : Int), m, (t : Int), rfl, hS, hR, hd, (by first | exact (zCk_fr hCk (fun c j h => rfl) (fun c j h => rfl)) | (clear hQ; grind [xu])), (by first | exact hG | (clear hQ; grind [xu])), (by omega), (by omega), (by omega), ?_⟩
        intro v126o p126hv p126bhv2
        have g126 : zc3 v126o (cuPG w m (cuE w i 1 0) (cuE w i 0 0)) (t * t) := (by have n0 : n = 0 := (by omega); subst n0; have z : zc3 _ _ _ := p126hv; rw [show v114 = cuE w i 1 0 by omega, show v121 = cuE w i 0 0 by omega] at z; exact z)
        refine And.intro (by omega) ⟨fun h129 => ?_, fun h129 => ?_⟩
        · refine ⟨((61 - m), (2 - (n + 1)), 0), zlt6 (by omega), [some (zvr (k)), some (zvi (a)), some (zvl (v)), none, some (zvi (m)), some (zvl (t)), none, some (zvi ((0 : Int))), some (zvi (8 * i + (n + 1)))], ⟨rfl, rfl, rfl, rfl, rfl, rfl, (congrArg (fun z => some (zvi z)) (by omega)), rfl⟩, m, t, 0, (n + 1), rfl, rfl, rfl, rfl, rfl, rfl, rfl, (by omega), hno, hmc, htt, (by unfold zc3 at g126; omega)⟩
        · refine ⟨((61 - m), (2 - (n + 1)), 0), zlt6 (by omega), [some (zvr (k)), some (zvi (a)), some (zvl (v)), none, some (zvi (m)), some (zvl (t)), none, some (zvi ((1 : Int))), some (zvi (8 * i + (n + 1)))], ⟨rfl, rfl, rfl, rfl, rfl, rfl, (congrArg (fun z => some (zvi z)) (by omega)), rfl⟩, m, t, 1, (n + 1), rfl, rfl, rfl, rfl, rfl, rfl, rfl, (by omega), hno, hmc, htt, (by unfold zc3 at g126; omega)⟩)
def T_V_hel : ZT := fun args I L R S Q => ∃ (k : Nat) (w : List CuR) (a : Int) (i : Nat) (c : Int) (e : Nat), args = [zvr k, zvi a, zvi c] ∧ (zSh S) ∧ (zRs R) ∧ (zDy zT14 zF14 k R S) ∧ (zCk k w I L) ∧ (cuG w) ∧ (a = i ∧ i < w.length) ∧ (cg w i 0 = 0) ∧ (c = 8 * (i : Int) + e ∧ e ≤ 1) ∧ ∀ (u : Int), ((u = 1 ∧ zex (fun s => s < w.length ∧ cuEn w i e s)) ∨ (u = 0 ∧ ¬ zex (fun s => s < w.length ∧ cuEn w i e s))) → Q (some (zvi (u))) I L R S
theorem sn_V_hel : ZSnd 5 14 16 T_V_hel := ZSnd.loops (zT14_16 4) (by
  rintro args I L R S Q hz ⟨k, w, a, i, c, e, rfl, hS, hR, hd, hCk, hG, hi, hc0_, hce, hQ⟩
  have hk5 := hd.1
  obtain ⟨hc0, hcl, hck⟩ := id hCk
  refine ⟨[2], fun nM tM lsM stM I1 L1 R1 S1 => match tM with
      | 2 => ∃ (m : Nat), nM = ((61 - m), 0, 0) ∧ lsM = [some (zvr (k)), some (zvi (a)), some (zvi (c)), some (zvi (m)), none] ∧ stM = [] ∧ I1 = I ∧ L1 = L ∧ R1 = R ∧ S1 = S ∧ (m ≤ w.length) ∧ (∀ s : Nat, s < m → ¬ cuEn w i e s)
      | _ => False, rfl, ?_, ⟨?_, True.intro⟩⟩
  · refine ⟨((61 - (0 : Nat)), 0, 0), [some (zvr (k)), some (zvi (a)), some (zvi (c)), some (zvi ((0 : Nat))), none], ⟨rfl, rfl, rfl, rfl, rfl⟩, 0, rfl, rfl, rfl, rfl, rfl, rfl, rfl, (by omega), (fun s h => absurd h (Nat.not_lt_zero s))⟩
  · rintro nM lsM stM I1 L1 R1 S1 hz1 ⟨m, rfl, rfl, rfl, rfl, rfl, rfl, rfl, hm, hno⟩
    refine And.intro (zDX hd 0 rfl) (zrd (v := (w.length)) hc0 ?_)
    refine And.intro ⟨(by omega), (by omega)⟩ ⟨fun h7 => ?_, fun h7 => ?_⟩
    · refine And.intro (Or.inl rfl) ?_
      refine hQ _ ?_
      · first
        | exact Or.inr ⟨rfl, fun q => by obtain ⟨s, q1, q2⟩ := q; exact hno s (by omega) q2⟩
        | (refine Or.inl ⟨rfl, Exists.intro m ⟨by omega, cuEn_i.mpr ?_⟩⟩
           unfold zc3 at g90
           omega)
    · refine And.intro ⟨(by omega), (by omega)⟩ ⟨fun h12 => ?_, fun h12 => ?_⟩
      · refine And.intro (zRb rfl) (zbt rfl ?_)
        refine ⟨((61 - (m + 1)), 0, 0), zlt6 (by omega), [some (zvr (k)), some (zvi (a)), some (zvi (c)), some (zvi ((m + 1))), none], ⟨rfl, rfl, rfl, rfl, rfl⟩, (m + 1), rfl, rfl, rfl, rfl, rfl, rfl, rfl, (by omega), (fun s hs => by by_cases e9 : s = m; (subst e9; intro q; have z := cuEn_i.mp q; first | omega | (unfold zc3 at g90; omega)); exact hno s (by omega))⟩
      · refine And.intro (zDX hd 0 rfl) (zrdR (v := some (k + 8)) (zDR hd 7 rfl) ?_)
        refine And.intro (zDP hd 8 rfl rfl (by omega) (by omega)) (fun v20 e20 r20 => ?_)
        have f20 : v20 = cuRa (cg w m 0) := (e20.trans ((congrArg (L1 (k + 8)) (show _ = m by omega)).trans (hck m (by omega)).2.2.2.2))
        have f20b : 0 ≤ v20 ∧ v20 ≤ 300 := (by have z := cuRa_b (c := cg w m 0); omega)
        have f20bb : 100 ≤ v20 := (by have z := (hG m (by omega)).1; have z2 : v20 = cuRa (cg w m 0) := (by omega); rw [z2]; unfold cuRa; split <;> (try split) <;> (try split) <;> (try split) <;> omega)
        refine ⟨_, _, ⟨zW6i r20, zW6i (zRL rfl)⟩, fun z22 c22 => ?_⟩
        refine And.intro c22.2.2 ⟨(fun h23 => False.elim (by omega)), fun h23 => ?_⟩
        refine And.intro (zDX hd 0 rfl) ⟨_, sn_V_cop.up (by decide), ?_⟩
        refine ⟨_, w, (m : Int), m, rfl, hS, hR, hd, (by first | exact (zCk_fr hCk (fun c j h => rfl) (fun c j h => rfl)) | (clear hQ; grind [xu])), (by first | exact hG | (clear hQ; grind [xu])), (by omega), ?_⟩
        intro v28o p28hv
        refine And.intro (by omega) ⟨fun h31 => ?_, fun h31 => ?_⟩
        · refine And.intro (zRb rfl) (zbt rfl ?_)
          refine ⟨((61 - (m + 1)), 0, 0), zlt6 (by omega), [some (zvr (k)), some (zvi (a)), some (zvi (c)), some (zvi ((m + 1))), none], ⟨rfl, rfl, rfl, rfl, rfl⟩, (m + 1), rfl, rfl, rfl, rfl, rfl, rfl, rfl, (by omega), (fun s hs => by by_cases e9 : s = m; (subst e9; intro q; have z := cuEn_i.mp q; first | omega | (unfold zc3 at g90; omega)); exact hno s (by omega))⟩
        · refine And.intro (zDX hd 0 rfl) (zrdR (v := some (k + 2)) (zDR hd 1 rfl) ?_)
          refine And.intro (zDP hd 2 rfl rfl (by omega) (by omega)) (fun v39 e39 r39 => ?_)
          have f39 : v39 = cg w m 2 := (e39.trans ((congrArg (I1 (k + 2)) (show _ = m by omega)).trans (hck m (by omega)).1.2.1))
          have f39b : 0 ≤ v39 ∧ v39 ≤ 3 := (by have z := (hG m (by omega)).2.2.1; omega)
          refine And.intro (zDX hd 0 rfl) (zrdR (v := some (k + 2)) (zDR hd 1 rfl) ?_)
          refine And.intro (zDP hd 2 rfl rfl (by omega) (by omega)) (fun v45 e45 r45 => ?_)
          have f45 : v45 = cg w i 2 := (e45.trans ((congrArg (I1 (k + 2)) (show _ = i by omega)).trans (hck i (by omega)).1.2.1))
          have f45b : 0 ≤ v45 ∧ v45 ≤ 3 := (by have z := (hG i (by omega)).2.2.1; omega)
          refine And.intro ⟨r39, r45⟩ ⟨fun h46 => ?_, fun h46 => ?_⟩
          · refine And.intro (zRb rfl) (zbt rfl ?_)
            refine ⟨((61 - (m + 1)), 0, 0), zlt6 (by omega), [some (zvr (k)), some (zvi (a)), some (zvi (c)), some (zvi ((m + 1))), none], ⟨rfl, rfl, rfl, rfl, rfl⟩, (m + 1), rfl, rfl, rfl, rfl, rfl, rfl, rfl, (by omega), (fun s hs => by by_cases e9 : s = m; (subst e9; intro q; have z := cuEn_i.mp q; first | omega | (unfold zc3 at g90; omega)); exact hno s (by omega))⟩
          · refine And.intro (zDX hd 0 rfl) ⟨_, sn_V_one.up (by decide), ?_⟩
            refine ⟨_, w, (a : Int), i, (m : Int), m, rfl, hS, hR, hd, (by first | exact (zCk_fr hCk (fun c j h => rfl) (fun c j h => rfl)) | (clear hQ; grind [xu])), (by first | exact hG | (clear hQ; grind [xu])), (by omega), (by omega), ?_⟩
            intro v52o p52hv
            refine And.intro (by omega) ⟨fun h55 => ?_, fun h55 => ?_⟩
            · refine And.intro (zRb rfl) (zbt rfl ?_)
              refine ⟨((61 - (m + 1)), 0, 0), zlt6 (by omega), [some (zvr (k)), some (zvi (a)), some (zvi (c)), some (zvi ((m + 1))), none], ⟨rfl, rfl, rfl, rfl, rfl⟩, (m + 1), rfl, rfl, rfl, rfl, rfl, rfl, rfl, (by omega), (fun s hs => by by_cases e9 : s = m; (subst e9; intro q; have z := cuEn_i.mp q; first | omega | (unfold zc3 at g90; omega)); exact hno s (by omega))⟩
            · refine And.intro (zRb rfl) (zbf rfl ?_)
              refine And.intro (zDX hd 0 rfl) (zrdR (v := some (k + 6)) (zDR hd 5 rfl) ?_)
              refine And.intro (zDP hd 6 rfl rfl (by omega) (by omega)) (fun v76 e76 r76 => ?_)
              have f76 : v76 = cuE w i 1 e := (e76.trans ((congrArg (L1 (k + 6)) (show _ = 8 * i + e by omega)).trans (zCi_c (hck i (by omega)) (by have z := cuCn_c (cg w i 0); omega)).1))
              have f76b : 0 ≤ v76 ∧ v76 ≤ 15000 := (by have z := cuE_b (ax := 1) (e := e) hG (show i < w.length by omega); omega)
              refine And.intro (zDX hd 0 rfl) (zrdR (v := some (k + 7)) (zDR hd 6 rfl) ?_)
              refine And.intro (zDP hd 7 rfl rfl (by omega) (by omega)) (fun v82 e82 r82 => ?_)
              have f82 : v82 = cuE w i 0 e := (e82.trans ((congrArg (L1 (k + 7)) (show _ = 8 * i + e by omega)).trans (zCi_c (hck i (by omega)) (by have z := cuCn_c (cg w i 0); omega)).2))
              have f82b : 0 ≤ v82 ∧ v82 ≤ 15000 := (by have z := cuE_b (ax := 0) (e := e) hG (show i < w.length by omega); omega)
              refine And.intro (zDX hd 0 rfl) (zrdR (v := some (k + 8)) (zDR hd 7 rfl) ?_)
              refine And.intro (zDP hd 8 rfl rfl (by omega) (by omega)) (fun v89 e89 r89 => ?_)
              have f89 : v89 = cuRa (cg w m 0) := (e89.trans ((congrArg (L1 (k + 8)) (show _ = m by omega)).trans (hck m (by omega)).2.2.2.2))
              have f89b : 0 ≤ v89 ∧ v89 ≤ 300 := (by have z := cuRa_b (c := cg w m 0); omega)
              have f89bb : 100 ≤ v89 := (by have z := (hG m (by omega)).1; have z2 : v89 = cuRa (cg w m 0) := (by omega); rw [z2]; unfold cuRa; split <;> (try split) <;> (try split) <;> (try split) <;> omega)
              refine And.intro (zDX hd 0 rfl) ⟨_, sn_V_pfl.up (by decide), ?_⟩
              refine ⟨_, w, (v76 : Int), (v82 : Int), (m : Int), m, (v89 : Int), rfl, hS, hR, hd, (by first | exact (zCk_fr hCk (fun c j h => rfl) (fun c j h => rfl)) | (clear hQ; grind [xu])), (by first | exact hG | (clear hQ; grind [xu])), (by omega), (by omega), (by omega), ?_⟩
              intro v90o p90hv p90bhv2
              have g90 : zc3 v90o (cuPG w m (cuE w i 1 e) (cuE w i 0 e)) (cuRa (cg w m 0) * cuRa (cg w m 0)) := (by have z : zc3 _ _ _ := p90hv; rw [show v76 = cuE w i 1 e by omega, show v82 = cuE w i 0 e by omega, show v89 = cuRa (cg w m 0) by omega] at z; exact z)
              refine And.intro (by omega) ⟨fun h93 => ?_, fun h93 => ?_⟩
              · refine ⟨((61 - (m + 1)), 0, 0), zlt6 (by omega), [some (zvr (k)), some (zvi (a)), some (zvi (c)), some (zvi ((m + 1))), none], ⟨rfl, rfl, rfl, rfl, rfl⟩, (m + 1), rfl, rfl, rfl, rfl, rfl, rfl, rfl, (by omega), (fun s hs => by by_cases e9 : s = m; (subst e9; intro q; have z := cuEn_i.mp q; first | omega | (unfold zc3 at g90; omega)); exact hno s (by omega))⟩
              · refine And.intro (Or.inr rfl) ?_
                refine hQ _ ?_
                · first
                  | exact Or.inr ⟨rfl, fun q => by obtain ⟨s, q1, q2⟩ := q; exact hno s (by omega) q2⟩
                  | (refine Or.inl ⟨rfl, Exists.intro m ⟨by omega, cuEn_i.mpr ?_⟩⟩
                     unfold zc3 at g90
                     omega))
def T_V_brk : ZT := fun args I L R S Q => ∃ (k : Nat) (w : List CuR) (nr : Nat) (rf : Nat → Nat → Int) (kd : Int) (b : Int) (a : Int) (i : Nat), args = [zvr k, zvi b, zvi a] ∧ (zSh S) ∧ (zRs R) ∧ (zDy zT14 zF14 k R S) ∧ (zCk k w I L) ∧ (cuG w) ∧ (zCr k nr rf I L) ∧ (cuRg nr rf) ∧ (a = i ∧ i < w.length) ∧ ((kd = 1 ∨ 3 ≤ kd) ∧ kd ≤ 5 ∧ b = cuRk kd) ∧ ∀ (v : Int), ((v = 1 ∧ cuV w nr rf kd i (-1)) ∨ (v = 0 ∧ ¬ cuV w nr rf kd i (-1))) → Q (some (zvi (v))) I L R S
theorem sn_V_brk : ZSnd 6 14 0 T_V_brk := ZSnd.of (zT14_0 5) (by
  rintro args I L R S Q hz ⟨k, w, nr, rf, kd, b, a, i, rfl, hS, hR, hd, hCk, hG, hCr, hRg, hi, hkd, hQ⟩
  have hk5 := hd.1
  obtain ⟨hc0, hcl, hck⟩ := id hCk
  obtain ⟨hr0, hrl, hrr⟩ := id hCr
  have hkb := cuRk_c kd
  have hgi := hG i hi.2
  refine And.intro rfl ?_
  refine And.intro ⟨(by omega), (zRb rfl)⟩ ⟨fun h2 => ?_, fun h2 => ?_⟩
  · refine And.intro ⟨(by omega), (zRb rfl)⟩ ⟨fun h15 => ?_, fun h15 => ?_⟩
    · have t15 : 5 ≤ b := (by omega)
      refine And.intro (zDX hd 0 rfl) (zrdR (v := some (k + 3)) (zDR hd 2 rfl) ?_)
      refine And.intro (zDP hd 3 rfl rfl (by omega) (by omega)) (fun v41 e41 r41 => ?_)
      have f41 : v41 = cuKd (cg w i 0) := (e41.trans ((congrArg (I (k + 3)) (show _ = i by omega)).trans (hck i (by omega)).1.2.2.1))
      have f41b : 0 ≤ v41 ∧ v41 ≤ 2 := (by have z := cuKd_c (cg w i 0); omega)
      have f41bb : (cg w i 0 = 3 ∧ v41 = 2) ∨ (cg w i 0 = 0 ∧ v41 = 0) ∨ (cg w i 0 ≠ 3 ∧ cg w i 0 ≠ 0 ∧ v41 = 1) := (by have z := cuKd_c (cg w i 0); rcases z with z | z | z; exact Or.inl ⟨z.1, by omega⟩; exact Or.inr (Or.inl ⟨z.1, by omega⟩); exact Or.inr (Or.inr ⟨z.1, z.2.1, by omega⟩))
      refine And.intro r41 ⟨fun h42 => ?_, fun h42 => ?_⟩
      · refine And.intro (zRb rfl) (zbt rfl ?_)
        refine And.intro ⟨(zRb rfl), (zRb rfl)⟩ (zbf rfl ?_)
        refine And.intro (Or.inl rfl) ?_
        refine hQ _ ?_
        · rcases (show kd = 1 ∨ kd = 3 ∨ kd = 4 ∨ kd = 5 by omega) with rfl | rfl | rfl | rfl
          · first
            | (exfalso; omega)
            | exact Or.inl ⟨rfl, cuV_k1.mpr ⟨hi.2, by omega, by omega, by omega⟩⟩
            | exact Or.inr ⟨rfl, fun q => by have z := cuV_k1.mp q; omega⟩
          · first
            | (exfalso; omega)
            | exact Or.inr ⟨rfl, fun q => by have z1 := (cuV_k3.mp q).2.1; have z2 := (cuV_k3.mp q).2.2.1; omega⟩
            | (have e9 : v147 = cuVl rf 3 (cg w i 0) (-1) nr := by omega
               have z := p148hv
               rw [e9] at z
               first
               | exact Or.inl ⟨rfl, cuV_k3.mpr ⟨hi.2, by omega, by omega, by rcases z with z | z; (exfalso; omega); exact z.2⟩⟩
               | exact Or.inr ⟨rfl, fun q => by have y := (cuV_k3.mp q).2.2.2; rcases z with z | z; exact y z.2; omega⟩)
          · first
            | (exfalso; omega)
            | exact Or.inr ⟨rfl, fun q => by have z1 := (cuV_k4.mp q).2.1; have z2 := (cuV_k4.mp q).2.2.1; omega⟩
            | exact Or.inl ⟨rfl, cuV_k4.mpr ⟨hi.2, by omega, by omega, fun q => by rcases p166hv with z | z; (exfalso; omega); exact z.2 q.1⟩⟩
            | exact Or.inl ⟨rfl, cuV_k4.mpr ⟨hi.2, by omega, by omega, fun q => by rcases p187hv with z | z; (exfalso; omega); exact z.2 q.2⟩⟩
            | exact Or.inr ⟨rfl, fun q => by have y := (cuV_k4.mp q).2.2.2; rcases p166hv with z | z; (rcases p187hv with x | x; exact y ⟨z.2, x.2⟩; omega); omega⟩
          · first
            | (exfalso; omega)
            | exact Or.inr ⟨rfl, fun q => by have z := (cuV_b hcl q).2.1; omega⟩
      · refine And.intro (zRb rfl) (zbf rfl ?_)
        refine And.intro (zDX hd 0 rfl) ⟨_, sn_V_rf1.up (by decide), ?_⟩
        refine ⟨_, w, nr, rf, kd, (b : Int), (a : Int), i, rfl, hS, hR, hd, (by first | exact (zCk_fr hCk (fun c j h => rfl) (fun c j h => rfl)) | (clear hQ; grind [xu])), (by first | exact hG | (clear hQ; grind [xu])), (by first | exact (zCr_fr hCr (fun c j h => rfl) (fun c j h => rfl)) | (clear hQ; grind [xu])), (by first | exact hRg | (clear hQ; grind [xu])), (by omega), (by omega), ?_⟩
        intro v59o p59hv p59bhv2
        have g59 : ((v59o = -1 ∧ cuVl rf kd (cg w i 0) (-1) nr = -1) ∨ (0 ≤ v59o ∧ v59o < nr ∧ cuVl rf kd (cg w i 0) (-1) nr = rf v59o.toNat 3 ∧ 0 ≤ rf v59o.toNat 3 ∧ rf v59o.toNat 3 ≤ 100000)) ∧ (4 < kd → v59o = -1) := (cuBe_v hRg p59hv)
        refine And.intro ⟨(by omega), (zRb rfl)⟩ ⟨fun h71 => ?_, fun h71 => ?_⟩
        · have t71 : b ≤ 5 := (by omega)
          refine And.intro (by omega) (And.intro (And.intro (fun h77 => False.elim (by omega)) (And.intro (fun h77 => False.elim (by omega)) (And.intro (fun h77 => False.elim (by omega)) (And.intro (fun h77 => False.elim (by omega)) (And.intro (fun h77 => ?_) True.intro))))) (fun h77 => False.elim (by omega)))
          refine And.intro (zDX hd 0 rfl) ⟨_, sn_V_hel.up (by decide), ?_⟩
          refine ⟨_, w, (a : Int), i, ((8 * a) : Int), 0, rfl, hS, hR, hd, (by first | exact (zCk_fr hCk (fun c j h => rfl) (fun c j h => rfl)) | (clear hQ; grind [xu])), (by first | exact hG | (clear hQ; grind [xu])), (by omega), (by omega), (by clear hQ; grind [xu]), ?_⟩
          intro u166o p166hv
          refine And.intro (by omega) ⟨fun h169 => ?_, fun h169 => ?_⟩
          · refine And.intro (Or.inr rfl) ?_
            refine hQ _ ?_
            · rcases (show kd = 1 ∨ kd = 3 ∨ kd = 4 ∨ kd = 5 by omega) with rfl | rfl | rfl | rfl
              · first
                | (exfalso; omega)
                | exact Or.inl ⟨rfl, cuV_k1.mpr ⟨hi.2, by omega, by omega, by omega⟩⟩
                | exact Or.inr ⟨rfl, fun q => by have z := cuV_k1.mp q; omega⟩
              · first
                | (exfalso; omega)
                | exact Or.inr ⟨rfl, fun q => by have z1 := (cuV_k3.mp q).2.1; have z2 := (cuV_k3.mp q).2.2.1; omega⟩
                | (have e9 : v147 = cuVl rf 3 (cg w i 0) (-1) nr := by omega
                   have z := p148hv
                   rw [e9] at z
                   first
                   | exact Or.inl ⟨rfl, cuV_k3.mpr ⟨hi.2, by omega, by omega, by rcases z with z | z; (exfalso; omega); exact z.2⟩⟩
                   | exact Or.inr ⟨rfl, fun q => by have y := (cuV_k3.mp q).2.2.2; rcases z with z | z; exact y z.2; omega⟩)
              · first
                | (exfalso; omega)
                | exact Or.inr ⟨rfl, fun q => by have z1 := (cuV_k4.mp q).2.1; have z2 := (cuV_k4.mp q).2.2.1; omega⟩
                | exact Or.inl ⟨rfl, cuV_k4.mpr ⟨hi.2, by omega, by omega, fun q => by rcases p166hv with z | z; (exfalso; omega); exact z.2 q.1⟩⟩
                | exact Or.inl ⟨rfl, cuV_k4.mpr ⟨hi.2, by omega, by omega, fun q => by rcases p187hv with z | z; (exfalso; omega); exact z.2 q.2⟩⟩
                | exact Or.inr ⟨rfl, fun q => by have y := (cuV_k4.mp q).2.2.2; rcases p166hv with z | z; (rcases p187hv with x | x; exact y ⟨z.2, x.2⟩; omega); omega⟩
              · first
                | (exfalso; omega)
                | exact Or.inr ⟨rfl, fun q => by have z := (cuV_b hcl q).2.1; omega⟩
          · refine And.intro (zDX hd 0 rfl) (zrdR (v := some (k + 5)) (zDR hd 4 rfl) ?_)
            refine And.intro (zDP hd 5 rfl rfl (by omega) (by omega)) (fun v183 e183 r183 => ?_)
            have f183 : v183 = cuCn (cg w i 0) := (e183.trans ((congrArg (I (k + 5)) (show _ = i by omega)).trans (hck i (by omega)).1.2.2.2.2))
            have f183b : (cg w i 0 = 0 ∧ v183 = 2) ∨ (cg w i 0 ≠ 0 ∧ v183 = 1) := (by have z := cuCn_c (cg w i 0); rcases z with z | z; exact Or.inl ⟨z.1, by omega⟩; exact Or.inr ⟨z.1, by omega⟩)
            have f183bb : 1 ≤ v183 ∧ v183 ≤ 2 := (by omega)
            refine And.intro (zDX hd 0 rfl) ⟨_, sn_V_hel.up (by decide), ?_⟩
            refine ⟨_, w, (a : Int), i, ((((8 * a) + v183) - 1) : Int), 1, rfl, hS, hR, hd, (by first | exact (zCk_fr hCk (fun c j h => rfl) (fun c j h => rfl)) | (clear hQ; grind [xu])), (by first | exact hG | (clear hQ; grind [xu])), (by omega), (by omega), (by clear hQ; grind [xu]), ?_⟩
            intro u187o p187hv
            refine And.intro (by omega) ⟨fun h190 => ?_, fun h190 => ?_⟩
            · refine And.intro (Or.inl rfl) ?_
              refine hQ _ ?_
              · rcases (show kd = 1 ∨ kd = 3 ∨ kd = 4 ∨ kd = 5 by omega) with rfl | rfl | rfl | rfl
                · first
                  | (exfalso; omega)
                  | exact Or.inl ⟨rfl, cuV_k1.mpr ⟨hi.2, by omega, by omega, by omega⟩⟩
                  | exact Or.inr ⟨rfl, fun q => by have z := cuV_k1.mp q; omega⟩
                · first
                  | (exfalso; omega)
                  | exact Or.inr ⟨rfl, fun q => by have z1 := (cuV_k3.mp q).2.1; have z2 := (cuV_k3.mp q).2.2.1; omega⟩
                  | (have e9 : v147 = cuVl rf 3 (cg w i 0) (-1) nr := by omega
                     have z := p148hv
                     rw [e9] at z
                     first
                     | exact Or.inl ⟨rfl, cuV_k3.mpr ⟨hi.2, by omega, by omega, by rcases z with z | z; (exfalso; omega); exact z.2⟩⟩
                     | exact Or.inr ⟨rfl, fun q => by have y := (cuV_k3.mp q).2.2.2; rcases z with z | z; exact y z.2; omega⟩)
                · first
                  | (exfalso; omega)
                  | exact Or.inr ⟨rfl, fun q => by have z1 := (cuV_k4.mp q).2.1; have z2 := (cuV_k4.mp q).2.2.1; omega⟩
                  | exact Or.inl ⟨rfl, cuV_k4.mpr ⟨hi.2, by omega, by omega, fun q => by rcases p166hv with z | z; (exfalso; omega); exact z.2 q.1⟩⟩
                  | exact Or.inl ⟨rfl, cuV_k4.mpr ⟨hi.2, by omega, by omega, fun q => by rcases p187hv with z | z; (exfalso; omega); exact z.2 q.2⟩⟩
                  | exact Or.inr ⟨rfl, fun q => by have y := (cuV_k4.mp q).2.2.2; rcases p166hv with z | z; (rcases p187hv with x | x; exact y ⟨z.2, x.2⟩; omega); omega⟩
                · first
                  | (exfalso; omega)
                  | exact Or.inr ⟨rfl, fun q => by have z := (cuV_b hcl q).2.1; omega⟩
            · refine And.intro (Or.inr rfl) ?_
              refine hQ _ ?_
              · rcases (show kd = 1 ∨ kd = 3 ∨ kd = 4 ∨ kd = 5 by omega) with rfl | rfl | rfl | rfl
                · first
                  | (exfalso; omega)
                  | exact Or.inl ⟨rfl, cuV_k1.mpr ⟨hi.2, by omega, by omega, by omega⟩⟩
                  | exact Or.inr ⟨rfl, fun q => by have z := cuV_k1.mp q; omega⟩
                · first
                  | (exfalso; omega)
                  | exact Or.inr ⟨rfl, fun q => by have z1 := (cuV_k3.mp q).2.1; have z2 := (cuV_k3.mp q).2.2.1; omega⟩
                  | (have e9 : v147 = cuVl rf 3 (cg w i 0) (-1) nr := by omega
                     have z := p148hv
                     rw [e9] at z
                     first
                     | exact Or.inl ⟨rfl, cuV_k3.mpr ⟨hi.2, by omega, by omega, by rcases z with z | z; (exfalso; omega); exact z.2⟩⟩
                     | exact Or.inr ⟨rfl, fun q => by have y := (cuV_k3.mp q).2.2.2; rcases z with z | z; exact y z.2; omega⟩)
                · first
                  | (exfalso; omega)
                  | exact Or.inr ⟨rfl, fun q => by have z1 := (cuV_k4.mp q).2.1; have z2 := (cuV_k4.mp q).2.2.1; omega⟩
                  | exact Or.inl ⟨rfl, cuV_k4.mpr ⟨hi.2, by omega, by omega, fun q => by rcases p166hv with z | z; (exfalso; omega); exact z.2 q.1⟩⟩
                  | exact Or.inl ⟨rfl, cuV_k4.mpr ⟨hi.2, by omega, by omega, fun q => by rcases p187hv with z | z; (exfalso; omega); exact z.2 q.2⟩⟩
                  | exact Or.inr ⟨rfl, fun q => by have y := (cuV_k4.mp q).2.2.2; rcases p166hv with z | z; (rcases p187hv with x | x; exact y ⟨z.2, x.2⟩; omega); omega⟩
                · first
                  | (exfalso; omega)
                  | exact Or.inr ⟨rfl, fun q => by have z := (cuV_b hcl q).2.1; omega⟩
        · refine And.intro (Or.inl rfl) ?_
          refine hQ _ ?_
          · rcases (show kd = 1 ∨ kd = 3 ∨ kd = 4 ∨ kd = 5 by omega) with rfl | rfl | rfl | rfl
            · first
              | (exfalso; omega)
              | exact Or.inl ⟨rfl, cuV_k1.mpr ⟨hi.2, by omega, by omega, by omega⟩⟩
              | exact Or.inr ⟨rfl, fun q => by have z := cuV_k1.mp q; omega⟩
            · first
              | (exfalso; omega)
              | exact Or.inr ⟨rfl, fun q => by have z1 := (cuV_k3.mp q).2.1; have z2 := (cuV_k3.mp q).2.2.1; omega⟩
              | (have e9 : v147 = cuVl rf 3 (cg w i 0) (-1) nr := by omega
                 have z := p148hv
                 rw [e9] at z
                 first
                 | exact Or.inl ⟨rfl, cuV_k3.mpr ⟨hi.2, by omega, by omega, by rcases z with z | z; (exfalso; omega); exact z.2⟩⟩
                 | exact Or.inr ⟨rfl, fun q => by have y := (cuV_k3.mp q).2.2.2; rcases z with z | z; exact y z.2; omega⟩)
            · first
              | (exfalso; omega)
              | exact Or.inr ⟨rfl, fun q => by have z1 := (cuV_k4.mp q).2.1; have z2 := (cuV_k4.mp q).2.2.1; omega⟩
              | exact Or.inl ⟨rfl, cuV_k4.mpr ⟨hi.2, by omega, by omega, fun q => by rcases p166hv with z | z; (exfalso; omega); exact z.2 q.1⟩⟩
              | exact Or.inl ⟨rfl, cuV_k4.mpr ⟨hi.2, by omega, by omega, fun q => by rcases p187hv with z | z; (exfalso; omega); exact z.2 q.2⟩⟩
              | exact Or.inr ⟨rfl, fun q => by have y := (cuV_k4.mp q).2.2.2; rcases p166hv with z | z; (rcases p187hv with x | x; exact y ⟨z.2, x.2⟩; omega); omega⟩
            · first
              | (exfalso; omega)
              | exact Or.inr ⟨rfl, fun q => by have z := (cuV_b hcl q).2.1; omega⟩
    · refine And.intro (zDX hd 0 rfl) (zrdR (v := some (k + 3)) (zDR hd 2 rfl) ?_)
      refine And.intro (zDP hd 3 rfl rfl (by omega) (by omega)) (fun v23 e23 r23 => ?_)
      have f23 : v23 = cuKd (cg w i 0) := (e23.trans ((congrArg (I (k + 3)) (show _ = i by omega)).trans (hck i (by omega)).1.2.2.1))
      have f23b : 0 ≤ v23 ∧ v23 ≤ 2 := (by have z := cuKd_c (cg w i 0); omega)
      have f23bb : (cg w i 0 = 3 ∧ v23 = 2) ∨ (cg w i 0 = 0 ∧ v23 = 0) ∨ (cg w i 0 ≠ 3 ∧ cg w i 0 ≠ 0 ∧ v23 = 1) := (by have z := cuKd_c (cg w i 0); rcases z with z | z | z; exact Or.inl ⟨z.1, by omega⟩; exact Or.inr (Or.inl ⟨z.1, by omega⟩); exact Or.inr (Or.inr ⟨z.1, z.2.1, by omega⟩))
      refine And.intro ⟨r23, (zRb rfl)⟩ ⟨fun h25 => ?_, fun h25 => ?_⟩
      · refine And.intro (zRb rfl) (zbt rfl ?_)
        refine And.intro ⟨(zRb rfl), (zRb rfl)⟩ (zbf rfl ?_)
        refine And.intro (Or.inl rfl) ?_
        refine hQ _ ?_
        · rcases (show kd = 1 ∨ kd = 3 ∨ kd = 4 ∨ kd = 5 by omega) with rfl | rfl | rfl | rfl
          · first
            | (exfalso; omega)
            | exact Or.inl ⟨rfl, cuV_k1.mpr ⟨hi.2, by omega, by omega, by omega⟩⟩
            | exact Or.inr ⟨rfl, fun q => by have z := cuV_k1.mp q; omega⟩
          · first
            | (exfalso; omega)
            | exact Or.inr ⟨rfl, fun q => by have z1 := (cuV_k3.mp q).2.1; have z2 := (cuV_k3.mp q).2.2.1; omega⟩
            | (have e9 : v147 = cuVl rf 3 (cg w i 0) (-1) nr := by omega
               have z := p148hv
               rw [e9] at z
               first
               | exact Or.inl ⟨rfl, cuV_k3.mpr ⟨hi.2, by omega, by omega, by rcases z with z | z; (exfalso; omega); exact z.2⟩⟩
               | exact Or.inr ⟨rfl, fun q => by have y := (cuV_k3.mp q).2.2.2; rcases z with z | z; exact y z.2; omega⟩)
          · first
            | (exfalso; omega)
            | exact Or.inr ⟨rfl, fun q => by have z1 := (cuV_k4.mp q).2.1; have z2 := (cuV_k4.mp q).2.2.1; omega⟩
            | exact Or.inl ⟨rfl, cuV_k4.mpr ⟨hi.2, by omega, by omega, fun q => by rcases p166hv with z | z; (exfalso; omega); exact z.2 q.1⟩⟩
            | exact Or.inl ⟨rfl, cuV_k4.mpr ⟨hi.2, by omega, by omega, fun q => by rcases p187hv with z | z; (exfalso; omega); exact z.2 q.2⟩⟩
            | exact Or.inr ⟨rfl, fun q => by have y := (cuV_k4.mp q).2.2.2; rcases p166hv with z | z; (rcases p187hv with x | x; exact y ⟨z.2, x.2⟩; omega); omega⟩
          · first
            | (exfalso; omega)
            | exact Or.inr ⟨rfl, fun q => by have z := (cuV_b hcl q).2.1; omega⟩
      · refine And.intro (zRb rfl) (zbf rfl ?_)
        refine And.intro (zDX hd 0 rfl) ⟨_, sn_V_rf1.up (by decide), ?_⟩
        refine ⟨_, w, nr, rf, kd, (b : Int), (a : Int), i, rfl, hS, hR, hd, (by first | exact (zCk_fr hCk (fun c j h => rfl) (fun c j h => rfl)) | (clear hQ; grind [xu])), (by first | exact hG | (clear hQ; grind [xu])), (by first | exact (zCr_fr hCr (fun c j h => rfl) (fun c j h => rfl)) | (clear hQ; grind [xu])), (by first | exact hRg | (clear hQ; grind [xu])), (by omega), (by omega), ?_⟩
        intro v59o p59hv p59bhv2
        have g59 : ((v59o = -1 ∧ cuVl rf kd (cg w i 0) (-1) nr = -1) ∨ (0 ≤ v59o ∧ v59o < nr ∧ cuVl rf kd (cg w i 0) (-1) nr = rf v59o.toNat 3 ∧ 0 ≤ rf v59o.toNat 3 ∧ rf v59o.toNat 3 ≤ 100000)) ∧ (4 < kd → v59o = -1) := (cuBe_v hRg p59hv)
        refine And.intro ⟨(by omega), (zRb rfl)⟩ ⟨fun h71 => ?_, fun h71 => ?_⟩
        · have t71 : b ≤ 5 := (by omega)
          refine And.intro (by omega) (And.intro (And.intro (fun h77 => False.elim (by omega)) (And.intro (fun h77 => False.elim (by omega)) (And.intro (fun h77 => False.elim (by omega)) (And.intro (fun h77 => ?_) (And.intro (fun h77 => False.elim (by omega)) True.intro))))) (fun h77 => False.elim (by omega)))
          refine And.intro (zDX hd 0 rfl) (zrdR (v := some (k + 12)) (zDR hd 11 rfl) ?_)
          refine And.intro (zDP hd 12 rfl rfl (by omega) (by omega)) (fun v147 e147 r147 => ?_)
          have f147 : v147 = rf v59o.toNat 3 := (e147.trans ((congrArg (L (k + 12)) (show _ = v59o.toNat by omega)).trans (hrr v59o.toNat (by omega)).2.2.2))
          have f147b : 0 ≤ v147 ∧ v147 ≤ 100000 := (by have z := hRg v59o.toNat (by omega); omega)
          refine And.intro (zDX hd 0 rfl) ⟨_, sn_V_rgd.up (by decide), ?_⟩
          refine ⟨_, w, (a : Int), i, (v147 : Int), rfl, hS, hR, hd, (by first | exact (zCk_fr hCk (fun c j h => rfl) (fun c j h => rfl)) | (clear hQ; grind [xu])), (by first | exact hG | (clear hQ; grind [xu])), (by omega), (by omega), (by omega), ?_⟩
          intro u148o p148hv
          refine And.intro (by omega) ⟨fun h151 => ?_, fun h151 => ?_⟩
          · refine And.intro (Or.inl rfl) ?_
            refine hQ _ ?_
            · rcases (show kd = 1 ∨ kd = 3 ∨ kd = 4 ∨ kd = 5 by omega) with rfl | rfl | rfl | rfl
              · first
                | (exfalso; omega)
                | exact Or.inl ⟨rfl, cuV_k1.mpr ⟨hi.2, by omega, by omega, by omega⟩⟩
                | exact Or.inr ⟨rfl, fun q => by have z := cuV_k1.mp q; omega⟩
              · first
                | (exfalso; omega)
                | exact Or.inr ⟨rfl, fun q => by have z1 := (cuV_k3.mp q).2.1; have z2 := (cuV_k3.mp q).2.2.1; omega⟩
                | (have e9 : v147 = cuVl rf 3 (cg w i 0) (-1) nr := by omega
                   have z := p148hv
                   rw [e9] at z
                   first
                   | exact Or.inl ⟨rfl, cuV_k3.mpr ⟨hi.2, by omega, by omega, by rcases z with z | z; (exfalso; omega); exact z.2⟩⟩
                   | exact Or.inr ⟨rfl, fun q => by have y := (cuV_k3.mp q).2.2.2; rcases z with z | z; exact y z.2; omega⟩)
              · first
                | (exfalso; omega)
                | exact Or.inr ⟨rfl, fun q => by have z1 := (cuV_k4.mp q).2.1; have z2 := (cuV_k4.mp q).2.2.1; omega⟩
                | exact Or.inl ⟨rfl, cuV_k4.mpr ⟨hi.2, by omega, by omega, fun q => by rcases p166hv with z | z; (exfalso; omega); exact z.2 q.1⟩⟩
                | exact Or.inl ⟨rfl, cuV_k4.mpr ⟨hi.2, by omega, by omega, fun q => by rcases p187hv with z | z; (exfalso; omega); exact z.2 q.2⟩⟩
                | exact Or.inr ⟨rfl, fun q => by have y := (cuV_k4.mp q).2.2.2; rcases p166hv with z | z; (rcases p187hv with x | x; exact y ⟨z.2, x.2⟩; omega); omega⟩
              · first
                | (exfalso; omega)
                | exact Or.inr ⟨rfl, fun q => by have z := (cuV_b hcl q).2.1; omega⟩
          · refine And.intro (Or.inr rfl) ?_
            refine hQ _ ?_
            · rcases (show kd = 1 ∨ kd = 3 ∨ kd = 4 ∨ kd = 5 by omega) with rfl | rfl | rfl | rfl
              · first
                | (exfalso; omega)
                | exact Or.inl ⟨rfl, cuV_k1.mpr ⟨hi.2, by omega, by omega, by omega⟩⟩
                | exact Or.inr ⟨rfl, fun q => by have z := cuV_k1.mp q; omega⟩
              · first
                | (exfalso; omega)
                | exact Or.inr ⟨rfl, fun q => by have z1 := (cuV_k3.mp q).2.1; have z2 := (cuV_k3.mp q).2.2.1; omega⟩
                | (have e9 : v147 = cuVl rf 3 (cg w i 0) (-1) nr := by omega
                   have z := p148hv
                   rw [e9] at z
                   first
                   | exact Or.inl ⟨rfl, cuV_k3.mpr ⟨hi.2, by omega, by omega, by rcases z with z | z; (exfalso; omega); exact z.2⟩⟩
                   | exact Or.inr ⟨rfl, fun q => by have y := (cuV_k3.mp q).2.2.2; rcases z with z | z; exact y z.2; omega⟩)
              · first
                | (exfalso; omega)
                | exact Or.inr ⟨rfl, fun q => by have z1 := (cuV_k4.mp q).2.1; have z2 := (cuV_k4.mp q).2.2.1; omega⟩
                | exact Or.inl ⟨rfl, cuV_k4.mpr ⟨hi.2, by omega, by omega, fun q => by rcases p166hv with z | z; (exfalso; omega); exact z.2 q.1⟩⟩
                | exact Or.inl ⟨rfl, cuV_k4.mpr ⟨hi.2, by omega, by omega, fun q => by rcases p187hv with z | z; (exfalso; omega); exact z.2 q.2⟩⟩
                | exact Or.inr ⟨rfl, fun q => by have y := (cuV_k4.mp q).2.2.2; rcases p166hv with z | z; (rcases p187hv with x | x; exact y ⟨z.2, x.2⟩; omega); omega⟩
              · first
                | (exfalso; omega)
                | exact Or.inr ⟨rfl, fun q => by have z := (cuV_b hcl q).2.1; omega⟩
        · refine And.intro (Or.inl rfl) ?_
          refine hQ _ ?_
          · rcases (show kd = 1 ∨ kd = 3 ∨ kd = 4 ∨ kd = 5 by omega) with rfl | rfl | rfl | rfl
            · first
              | (exfalso; omega)
              | exact Or.inl ⟨rfl, cuV_k1.mpr ⟨hi.2, by omega, by omega, by omega⟩⟩
              | exact Or.inr ⟨rfl, fun q => by have z := cuV_k1.mp q; omega⟩
            · first
              | (exfalso; omega)
              | exact Or.inr ⟨rfl, fun q => by have z1 := (cuV_k3.mp q).2.1; have z2 := (cuV_k3.mp q).2.2.1; omega⟩
              | (have e9 : v147 = cuVl rf 3 (cg w i 0) (-1) nr := by omega
                 have z := p148hv
                 rw [e9] at z
                 first
                 | exact Or.inl ⟨rfl, cuV_k3.mpr ⟨hi.2, by omega, by omega, by rcases z with z | z; (exfalso; omega); exact z.2⟩⟩
                 | exact Or.inr ⟨rfl, fun q => by have y := (cuV_k3.mp q).2.2.2; rcases z with z | z; exact y z.2; omega⟩)
            · first
              | (exfalso; omega)
              | exact Or.inr ⟨rfl, fun q => by have z1 := (cuV_k4.mp q).2.1; have z2 := (cuV_k4.mp q).2.2.1; omega⟩
              | exact Or.inl ⟨rfl, cuV_k4.mpr ⟨hi.2, by omega, by omega, fun q => by rcases p166hv with z | z; (exfalso; omega); exact z.2 q.1⟩⟩
              | exact Or.inl ⟨rfl, cuV_k4.mpr ⟨hi.2, by omega, by omega, fun q => by rcases p187hv with z | z; (exfalso; omega); exact z.2 q.2⟩⟩
              | exact Or.inr ⟨rfl, fun q => by have y := (cuV_k4.mp q).2.2.2; rcases p166hv with z | z; (rcases p187hv with x | x; exact y ⟨z.2, x.2⟩; omega); omega⟩
            · first
              | (exfalso; omega)
              | exact Or.inr ⟨rfl, fun q => by have z := (cuV_b hcl q).2.1; omega⟩
  · refine And.intro (zDX hd 0 rfl) ⟨_, sn_V_cop.up (by decide), ?_⟩
    refine ⟨_, w, (a : Int), i, rfl, hS, hR, hd, (by first | exact (zCk_fr hCk (fun c j h => rfl) (fun c j h => rfl)) | (clear hQ; grind [xu])), (by first | exact hG | (clear hQ; grind [xu])), (by omega), ?_⟩
    intro v7o p7hv
    refine And.intro (by omega) ⟨fun h52 => ?_, fun h52 => ?_⟩
    · refine And.intro ⟨(zRb rfl), (zRb rfl)⟩ (zbf rfl ?_)
      refine And.intro (Or.inl rfl) ?_
      refine hQ _ ?_
      · rcases (show kd = 1 ∨ kd = 3 ∨ kd = 4 ∨ kd = 5 by omega) with rfl | rfl | rfl | rfl
        · first
          | (exfalso; omega)
          | exact Or.inl ⟨rfl, cuV_k1.mpr ⟨hi.2, by omega, by omega, by omega⟩⟩
          | exact Or.inr ⟨rfl, fun q => by have z := cuV_k1.mp q; omega⟩
        · first
          | (exfalso; omega)
          | exact Or.inr ⟨rfl, fun q => by have z1 := (cuV_k3.mp q).2.1; have z2 := (cuV_k3.mp q).2.2.1; omega⟩
          | (have e9 : v147 = cuVl rf 3 (cg w i 0) (-1) nr := by omega
             have z := p148hv
             rw [e9] at z
             first
             | exact Or.inl ⟨rfl, cuV_k3.mpr ⟨hi.2, by omega, by omega, by rcases z with z | z; (exfalso; omega); exact z.2⟩⟩
             | exact Or.inr ⟨rfl, fun q => by have y := (cuV_k3.mp q).2.2.2; rcases z with z | z; exact y z.2; omega⟩)
        · first
          | (exfalso; omega)
          | exact Or.inr ⟨rfl, fun q => by have z1 := (cuV_k4.mp q).2.1; have z2 := (cuV_k4.mp q).2.2.1; omega⟩
          | exact Or.inl ⟨rfl, cuV_k4.mpr ⟨hi.2, by omega, by omega, fun q => by rcases p166hv with z | z; (exfalso; omega); exact z.2 q.1⟩⟩
          | exact Or.inl ⟨rfl, cuV_k4.mpr ⟨hi.2, by omega, by omega, fun q => by rcases p187hv with z | z; (exfalso; omega); exact z.2 q.2⟩⟩
          | exact Or.inr ⟨rfl, fun q => by have y := (cuV_k4.mp q).2.2.2; rcases p166hv with z | z; (rcases p187hv with x | x; exact y ⟨z.2, x.2⟩; omega); omega⟩
        · first
          | (exfalso; omega)
          | exact Or.inr ⟨rfl, fun q => by have z := (cuV_b hcl q).2.1; omega⟩
    · refine And.intro (zDX hd 0 rfl) ⟨_, sn_V_rf1.up (by decide), ?_⟩
      refine ⟨_, w, nr, rf, kd, (b : Int), (a : Int), i, rfl, hS, hR, hd, (by first | exact (zCk_fr hCk (fun c j h => rfl) (fun c j h => rfl)) | (clear hQ; grind [xu])), (by first | exact hG | (clear hQ; grind [xu])), (by first | exact (zCr_fr hCr (fun c j h => rfl) (fun c j h => rfl)) | (clear hQ; grind [xu])), (by first | exact hRg | (clear hQ; grind [xu])), (by omega), (by omega), ?_⟩
      intro v59o p59hv p59bhv2
      have g59 : ((v59o = -1 ∧ cuVl rf kd (cg w i 0) (-1) nr = -1) ∨ (0 ≤ v59o ∧ v59o < nr ∧ cuVl rf kd (cg w i 0) (-1) nr = rf v59o.toNat 3 ∧ 0 ≤ rf v59o.toNat 3 ∧ rf v59o.toNat 3 ≤ 100000)) ∧ (4 < kd → v59o = -1) := (cuBe_v hRg p59hv)
      refine And.intro ⟨(by omega), (zRb rfl)⟩ ⟨fun h71 => ?_, fun h71 => ?_⟩
      · have t71 : b ≤ 5 := (by omega)
        refine And.intro (by omega) (And.intro (And.intro (fun h77 => ?_) (And.intro (fun h77 => False.elim (by omega)) (And.intro (fun h77 => False.elim (by omega)) (And.intro (fun h77 => False.elim (by omega)) (And.intro (fun h77 => False.elim (by omega)) True.intro))))) (fun h77 => False.elim (by omega)))
        refine And.intro (zDX hd 0 rfl) (zrdR (v := some (k + 8)) (zDR hd 7 rfl) ?_)
        refine And.intro (zDP hd 8 rfl rfl (by omega) (by omega)) (fun v120 e120 r120 => ?_)
        have f120 : v120 = cuRa (cg w i 0) := (e120.trans ((congrArg (L (k + 8)) (show _ = i by omega)).trans (hck i (by omega)).2.2.2.2))
        have f120b : 0 ≤ v120 ∧ v120 ≤ 300 := (by have z := cuRa_b (c := cg w i 0); omega)
        have f120bb : 100 ≤ v120 := (by have z := (hG i (by omega)).1; have z2 : v120 = cuRa (cg w i 0) := (by omega); rw [z2]; unfold cuRa; split <;> (try split) <;> (try split) <;> (try split) <;> omega)
        refine And.intro (zDX hd 0 rfl) (zrdR (v := some (k + 12)) (zDR hd 11 rfl) ?_)
        refine And.intro (zDP hd 12 rfl rfl (by omega) (by omega)) (fun v128 e128 r128 => ?_)
        have f128 : v128 = rf v59o.toNat 3 := (e128.trans ((congrArg (L (k + 12)) (show _ = v59o.toNat by omega)).trans (hrr v59o.toNat (by omega)).2.2.2))
        have f128b : 0 ≤ v128 ∧ v128 ≤ 100000 := (by have z := hRg v59o.toNat (by omega); omega)
        refine ⟨_, _, ⟨zW6i (by omega), zW6i r128⟩, fun z129 c129 => ?_⟩
        refine And.intro c129.2.2 ⟨fun h130 => ?_, fun h130 => ?_⟩
        · refine And.intro (Or.inl rfl) ?_
          refine hQ _ ?_
          · rcases (show kd = 1 ∨ kd = 3 ∨ kd = 4 ∨ kd = 5 by omega) with rfl | rfl | rfl | rfl
            · first
              | (exfalso; omega)
              | exact Or.inl ⟨rfl, cuV_k1.mpr ⟨hi.2, by omega, by omega, by omega⟩⟩
              | exact Or.inr ⟨rfl, fun q => by have z := cuV_k1.mp q; omega⟩
            · first
              | (exfalso; omega)
              | exact Or.inr ⟨rfl, fun q => by have z1 := (cuV_k3.mp q).2.1; have z2 := (cuV_k3.mp q).2.2.1; omega⟩
              | (have e9 : v147 = cuVl rf 3 (cg w i 0) (-1) nr := by omega
                 have z := p148hv
                 rw [e9] at z
                 first
                 | exact Or.inl ⟨rfl, cuV_k3.mpr ⟨hi.2, by omega, by omega, by rcases z with z | z; (exfalso; omega); exact z.2⟩⟩
                 | exact Or.inr ⟨rfl, fun q => by have y := (cuV_k3.mp q).2.2.2; rcases z with z | z; exact y z.2; omega⟩)
            · first
              | (exfalso; omega)
              | exact Or.inr ⟨rfl, fun q => by have z1 := (cuV_k4.mp q).2.1; have z2 := (cuV_k4.mp q).2.2.1; omega⟩
              | exact Or.inl ⟨rfl, cuV_k4.mpr ⟨hi.2, by omega, by omega, fun q => by rcases p166hv with z | z; (exfalso; omega); exact z.2 q.1⟩⟩
              | exact Or.inl ⟨rfl, cuV_k4.mpr ⟨hi.2, by omega, by omega, fun q => by rcases p187hv with z | z; (exfalso; omega); exact z.2 q.2⟩⟩
              | exact Or.inr ⟨rfl, fun q => by have y := (cuV_k4.mp q).2.2.2; rcases p166hv with z | z; (rcases p187hv with x | x; exact y ⟨z.2, x.2⟩; omega); omega⟩
            · first
              | (exfalso; omega)
              | exact Or.inr ⟨rfl, fun q => by have z := (cuV_b hcl q).2.1; omega⟩
        · refine And.intro (Or.inr rfl) ?_
          refine hQ _ ?_
          · rcases (show kd = 1 ∨ kd = 3 ∨ kd = 4 ∨ kd = 5 by omega) with rfl | rfl | rfl | rfl
            · first
              | (exfalso; omega)
              | exact Or.inl ⟨rfl, cuV_k1.mpr ⟨hi.2, by omega, by omega, by omega⟩⟩
              | exact Or.inr ⟨rfl, fun q => by have z := cuV_k1.mp q; omega⟩
            · first
              | (exfalso; omega)
              | exact Or.inr ⟨rfl, fun q => by have z1 := (cuV_k3.mp q).2.1; have z2 := (cuV_k3.mp q).2.2.1; omega⟩
              | (have e9 : v147 = cuVl rf 3 (cg w i 0) (-1) nr := by omega
                 have z := p148hv
                 rw [e9] at z
                 first
                 | exact Or.inl ⟨rfl, cuV_k3.mpr ⟨hi.2, by omega, by omega, by rcases z with z | z; (exfalso; omega); exact z.2⟩⟩
                 | exact Or.inr ⟨rfl, fun q => by have y := (cuV_k3.mp q).2.2.2; rcases z with z | z; exact y z.2; omega⟩)
            · first
              | (exfalso; omega)
              | exact Or.inr ⟨rfl, fun q => by have z1 := (cuV_k4.mp q).2.1; have z2 := (cuV_k4.mp q).2.2.1; omega⟩
              | exact Or.inl ⟨rfl, cuV_k4.mpr ⟨hi.2, by omega, by omega, fun q => by rcases p166hv with z | z; (exfalso; omega); exact z.2 q.1⟩⟩
              | exact Or.inl ⟨rfl, cuV_k4.mpr ⟨hi.2, by omega, by omega, fun q => by rcases p187hv with z | z; (exfalso; omega); exact z.2 q.2⟩⟩
              | exact Or.inr ⟨rfl, fun q => by have y := (cuV_k4.mp q).2.2.2; rcases p166hv with z | z; (rcases p187hv with x | x; exact y ⟨z.2, x.2⟩; omega); omega⟩
            · first
              | (exfalso; omega)
              | exact Or.inr ⟨rfl, fun q => by have z := (cuV_b hcl q).2.1; omega⟩
      · refine And.intro (Or.inl rfl) ?_
        refine hQ _ ?_
        · rcases (show kd = 1 ∨ kd = 3 ∨ kd = 4 ∨ kd = 5 by omega) with rfl | rfl | rfl | rfl
          · first
            | (exfalso; omega)
            | exact Or.inl ⟨rfl, cuV_k1.mpr ⟨hi.2, by omega, by omega, by omega⟩⟩
            | exact Or.inr ⟨rfl, fun q => by have z := cuV_k1.mp q; omega⟩
          · first
            | (exfalso; omega)
            | exact Or.inr ⟨rfl, fun q => by have z1 := (cuV_k3.mp q).2.1; have z2 := (cuV_k3.mp q).2.2.1; omega⟩
            | (have e9 : v147 = cuVl rf 3 (cg w i 0) (-1) nr := by omega
               have z := p148hv
               rw [e9] at z
               first
               | exact Or.inl ⟨rfl, cuV_k3.mpr ⟨hi.2, by omega, by omega, by rcases z with z | z; (exfalso; omega); exact z.2⟩⟩
               | exact Or.inr ⟨rfl, fun q => by have y := (cuV_k3.mp q).2.2.2; rcases z with z | z; exact y z.2; omega⟩)
          · first
            | (exfalso; omega)
            | exact Or.inr ⟨rfl, fun q => by have z1 := (cuV_k4.mp q).2.1; have z2 := (cuV_k4.mp q).2.2.1; omega⟩
            | exact Or.inl ⟨rfl, cuV_k4.mpr ⟨hi.2, by omega, by omega, fun q => by rcases p166hv with z | z; (exfalso; omega); exact z.2 q.1⟩⟩
            | exact Or.inl ⟨rfl, cuV_k4.mpr ⟨hi.2, by omega, by omega, fun q => by rcases p187hv with z | z; (exfalso; omega); exact z.2 q.2⟩⟩
            | exact Or.inr ⟨rfl, fun q => by have y := (cuV_k4.mp q).2.2.2; rcases p166hv with z | z; (rcases p187hv with x | x; exact y ⟨z.2, x.2⟩; omega); omega⟩
          · first
            | (exfalso; omega)
            | exact Or.inr ⟨rfl, fun q => by have z := (cuV_b hcl q).2.1; omega⟩)
