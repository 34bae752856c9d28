/-! xj -/
def T_V_wvd : ZT := fun args I L R S Q => ∃ (k : Nat) (a : Int), args = [zvr k, zvi a] ∧ (zSh S) ∧ (zRs R) ∧ (zDy zT14 zF14 k R S) ∧ (I k 23 = 0) ∧ (r32 a) ∧ ∀ (v : Int), (v = 0) → Q (some (zvi (v))) I L R S
theorem sn_V_wvd : ZSnd 1 14 22 T_V_wvd := ZSnd.loops (zT14_22 0) (by
  rintro args I L R S Q hz ⟨k, a, rfl, hS, hR, hd, hw0, hr, hQ⟩
  have hk5 := hd.1
  refine ⟨[2], fun nM tM lsM stM I1 L1 R1 S1 => match tM with
      | 2 => nM = (1, 0, 0) ∧ lsM = [some (zvr (k)), some (zvi (a)), some (zvi (0)), none, none] ∧ stM = [] ∧ I1 = I ∧ L1 = L ∧ R1 = R ∧ S1 = S
      | _ => False, rfl, ?_, ⟨?_, True.intro⟩⟩
  · refine ⟨(1, 0, 0), [some (zvr (k)), some (zvi (a)), some (zvi (0)), none, none], ⟨rfl, rfl, rfl, rfl⟩, rfl, rfl, rfl, rfl, rfl, rfl, rfl⟩
  · rintro nM lsM stM I1 L1 R1 S1 hz1 ⟨rfl, rfl, rfl, rfl, rfl, rfl, rfl⟩
    refine And.intro (zDX hd 0 rfl) (zrd (v := 0) hw0 ?_)
    refine And.intro ⟨(zRb rfl), (zRb rfl)⟩ (zbt rfl ?_)
    refine And.intro (Or.inl rfl) ?_
    refine hQ _ (by omega))
def T_V_run : ZT := fun args I L R S Q => ∃ (k : Nat) (w : List CuR) (nr : Nat) (rf : Nat → Nat → Int), args = [zvr k, zvi 1, zvl 0] ∧ (zSh S) ∧ (zRs R) ∧ (zDy zT14 zF14 k R S) ∧ (zCk k w I L) ∧ (cuG w) ∧ (zCr k nr rf I L) ∧ (cuRg nr rf) ∧ (I k 23 = 0) ∧ ∀ (v : Int) (I' : ZI) (L' : ZI), (v = I' k 19) → (0 ≤ v ∧ v ≤ 1950) → (zFY k w (cuAl w nr rf) I') → (∀ c j : Nat, ¬ (c = k ∧ j = 0) → ¬ (c = k ∧ j = 17) → ¬ (c = k ∧ j = 19) → ¬ c = k + 13 → ¬ c = k + 14 → I' c j = I c j) → (∀ c j : Nat, ¬ c = k + 15 → ¬ c = k + 16 → L' c j = L c j) → Q (some (zvi (v))) I' L' R S
theorem sn_V_run : ZSnd 8 14 31 T_V_run := ZSnd.loops (zT14_31 7) (by
  rintro args I L R S Q hz ⟨k, w, nr, rf, rfl, hS, hR, hd, hCk, hG, hCr, hRg, hw0, hQ⟩
  have hk5 := hd.1
  obtain ⟨hc0, hcl, hck⟩ := id hCk
  obtain ⟨hr0, hrl, hrr⟩ := id hCr
  refine ⟨[47], fun nM tM lsM stM I1 L1 R1 S1 => match tM with
      | 47 => ∃ (m : Nat) (n : Nat), nM = ((1951 - n), 0, 0) ∧ lsM = [some (zvr (k)), some (zvi (1)), some (zvl (0)), none, some (zvi (n)), some (zvi (n)), none] ∧ stM = [] ∧ R1 = R ∧ S1 = S ∧ (n ≤ m ∧ m ≤ 1950) ∧ (I1 k 19 = m) ∧ (I1 k 23 = 0) ∧ (zMe m (cuAl w nr rf)) ∧ (∀ j : Nat, j < m → cuWf w (cuVx (cuAl w nr rf) j) ∧ zFe (k + 13) j (cuVx (cuAl w nr rf) j) I1) ∧ (∀ j : Nat, j < n → zFe (k + 14) j (cuVx (cuAl w nr rf) j) I1) ∧ (∀ c j : Nat, ¬ (c = k ∧ j = 0) → ¬ (c = k ∧ j = 17) → ¬ (c = k ∧ j = 19) → ¬ c = k + 13 → ¬ c = k + 14 → I1 c j = I c j) ∧ (∀ c j : Nat, ¬ c = k + 15 → ¬ c = k + 16 → L1 c j = L c j)
      | _ => False, rfl, ?_, ⟨?_, True.intro⟩⟩
  · refine And.intro ⟨(zRb rfl), (zRb rfl)⟩ (zbf rfl ?_)
    refine And.intro ⟨(zRb rfl), (zRb rfl)⟩ (zbf rfl ?_)
    refine And.intro (zDX hd 0 rfl) ⟨_, (zWi (zRb rfl)), ?_⟩
    refine And.intro (zDX hd 0 rfl) (zrd (v := 0) zxe ?_)
    refine And.intro (zRb rfl) (zbt rfl ?_)
    refine And.intro (zDX hd 0 rfl) ⟨_, sn_V_fnd.up (by decide), ?_⟩
    refine ⟨_, _, _, _, rfl, hS, hR, hd, (by first | exact (zCk_fr hCk (fun c j h => (zxcj (by omega) rfl)) (fun c j h => rfl)) | (clear hQ; grind [xu])), (by first | exact hG | (clear hQ; grind [xu])), (by first | exact (zCr_fr hCr (fun c j h => (zxcj (by omega) rfl)) (fun c j h => rfl)) | (clear hQ; grind [xu])), (by first | exact hRg | (clear hQ; grind [xu])), ?_⟩
    intro I30o p30hF p30bfr
    have g30 : 0 ≤ I30o k 17 ∧ I30o k 17 ≤ 1950 := (zFX_b p30hF)
    refine And.intro (zDX hd 0 rfl) (fun v35 e35 r35 => ?_)
    refine And.intro (zDX hd 0 rfl) ⟨_, (zWi r35), ?_⟩
    refine ⟨((1951 - (0 : Nat)), 0, 0), [some (zvr (k)), some (zvi (1)), some (zvl (0)), none, some (zvi ((0 : Nat))), some (zvi ((0 : Nat))), none], ⟨rfl, rfl, rfl, rfl, rfl, rfl⟩, (I30o k 17).toNat, 0, rfl, rfl, rfl, rfl, rfl, (by omega), (zxe.trans (by omega)), (zxs (by decide) ((p30bfr k 23 (by omega) (by omega)).trans (zxs (by decide) hw0))), (zFX_m p30hF), (fun j hj => ⟨((zFX_q p30hF).2 j hj).1, zFe_fr ((zFX_q p30hF).2 j hj).2 (fun i _ _ => zxu (by omega) rfl)⟩), (fun j h => absurd h (Nat.not_lt_zero j)), (fun c j h0 h1 h2 h3 h4 => (zxcj h2 ((p30bfr c j h1 h3).trans (zxcj h0 rfl)))), (fun c j h0 h1 => rfl)⟩
  · rintro nM lsM stM I1 L1 R1 S1 hz1 ⟨m, n, rfl, rfl, rfl, rfl, rfl, hn, hc19, hw01, hmz, hk13, hk14, fr, frL⟩
    refine And.intro (zDX hd 0 rfl) (zrd (v := m) hc19 ?_)
    refine And.intro ⟨(by omega), (by omega)⟩ ⟨fun h53 => ?_, fun h53 => ?_⟩
    · refine hQ _ _ _ (by clear hQ; grind [xu]) (by omega) (zFY_i hc19 (by omega) hmz (fun j hj => ⟨(hk13 j hj).1, hk14 j (by omega)⟩)) (fun c j h0 h1 h2 h3 h4 => ((fr c j h0 h1 h2 h3 h4).trans rfl)) (fun c j h0 h1 => ((frL c j h0 h1).trans rfl))
    · refine And.intro ⟨(zRb rfl), (zRb rfl)⟩ (zbf rfl ?_)
      refine And.intro (zDX hd 0 rfl) (zrdR (v := some (k + 14)) (zDR hd 13 rfl) ?_)
      refine And.intro (zDX hd 0 rfl) (zrdR (v := some (k + 13)) (zDR hd 12 rfl) ?_)
      refine And.intro (zDP hd 13 rfl rfl (by omega) (by omega)) (fun v87 e87 r87 => ?_)
      refine And.intro ⟨(by show 40 ≤ _; omega), (zDP hd 14 rfl rfl (by omega) (by omega))⟩ ⟨_, (zWi r87), ?_⟩
      refine And.intro ⟨(zRb rfl), (zRb rfl)⟩ (zbf rfl ?_)
      refine And.intro (zDX hd 0 rfl) (zrdR (v := some (k + 14)) (zDR hd 13 rfl) ?_)
      refine And.intro (zDX hd 0 rfl) (zrdR (v := some (k + 13)) (zDR hd 12 rfl) ?_)
      refine And.intro (zDP hd 13 rfl rfl (by omega) (by omega)) (fun v87b e87b r87b => ?_)
      have f87 : v87b = cuVx (cuAl w nr rf) n / 61 % 60 := (by refine e87b.trans ?_; repeat (first | exact ((congrArg (I1 (k + 13)) (by omega)).trans (hk13 n (by omega)).2.2.1) | refine zxu (by omega) ?_ | refine zxs (by omega) ?_))
      have f87b : 0 ≤ v87b ∧ v87b ≤ 59 := (by omega)
      refine And.intro ⟨(by show 40 ≤ _; omega), (zDP hd 14 rfl rfl (by omega) (by omega))⟩ ⟨_, (zWi r87b), ?_⟩
      refine And.intro ⟨(zRb rfl), (zRb rfl)⟩ (zbf rfl ?_)
      refine And.intro (zDX hd 0 rfl) (zrdR (v := some (k + 14)) (zDR hd 13 rfl) ?_)
      refine And.intro (zDX hd 0 rfl) (zrdR (v := some (k + 13)) (zDR hd 12 rfl) ?_)
      refine And.intro (zDP hd 13 rfl rfl (by omega) (by omega)) (fun v87bb e87bb r87bb => ?_)
      refine And.intro ⟨(by show 40 ≤ _; omega), (zDP hd 14 rfl rfl (by omega) (by omega))⟩ ⟨_, (zWi r87bb), ?_⟩
      refine And.intro ⟨(zRb rfl), (zRb rfl)⟩ (zbt rfl ?_)
      refine And.intro (zDX hd 0 rfl) (zrdR (v := some (k + 15)) (zDR hd 14 rfl) ?_)
      refine And.intro (zDX hd 0 rfl) (zrdR (v := some (k + 6)) (zDR hd 5 rfl) ?_)
      refine And.intro (zDX hd 0 rfl) (zrdR (v := some (k + 14)) (zDR hd 13 rfl) ?_)
      refine And.intro (zDP hd 14 rfl rfl (by omega) (by omega)) (fun v117 e117 r117 => ?_)
      have f117 : v117 = v87b := (by refine Eq.trans e117 ?_; repeat (first | exact zxe' (by omega) | refine zxs (by omega) ?_ | refine zxu (by omega) ?_))
      have f117b : 0 ≤ v117 ∧ v117 ≤ 59 := (by omega)
      refine And.intro (zDP hd 6 rfl rfl (by omega) (by omega)) (fun v119 e119 r119 => ?_)
      refine And.intro ⟨(by show 40 ≤ _; omega), (zDP hd 15 rfl rfl (by omega) (by omega))⟩ ⟨_, zW6i r119, ?_⟩
      refine And.intro (zDX hd 0 rfl) (zrdR (v := some (k + 16)) (zDR hd 15 rfl) ?_)
      refine And.intro (zDX hd 0 rfl) (zrdR (v := some (k + 7)) (zDR hd 6 rfl) ?_)
      refine And.intro (zDX hd 0 rfl) (zrdR (v := some (k + 14)) (zDR hd 13 rfl) ?_)
      refine And.intro (zDP hd 14 rfl rfl (by omega) (by omega)) (fun v143 e143 r143 => ?_)
      have f143 : v143 = v87b := (by refine Eq.trans e143 ?_; repeat (first | exact zxe' (by omega) | refine zxs (by omega) ?_ | refine zxu (by omega) ?_))
      have f143b : 0 ≤ v143 ∧ v143 ≤ 59 := (by omega)
      refine And.intro (zDP hd 7 rfl rfl (by omega) (by omega)) (fun v145 e145 r145 => ?_)
      refine And.intro ⟨(by show 40 ≤ _; omega), (zDP hd 16 rfl rfl (by omega) (by omega))⟩ ⟨_, zW6i r145, ?_⟩
      refine And.intro (zDX hd 0 rfl) ⟨_, sn_V_wvd.up (by decide), ?_⟩
      refine ⟨_, (n : Int), rfl, hS, hR, hd, (zxu (by omega) (zxu (by omega) (zxu (by omega) hw01))), (by omega), ?_⟩
      intro v152o p152hv
      refine And.intro (by omega) ⟨fun h155 => ?_, (fun h155 => False.elim (by omega))⟩
      refine ⟨((1951 - (n + 1)), 0, 0), zlt6 (by omega), [some (zvr (k)), some (zvi (1)), some (zvl (0)), none, some (zvi ((n + 1))), some (zvi ((n + 1))), none], ⟨rfl, rfl, rfl, rfl, rfl, rfl⟩, m, (n + 1), rfl, rfl, rfl, rfl, rfl, (by omega), (zxu (by omega) (zxu (by omega) (zxu (by omega) hc19))), (zxu (by omega) (zxu (by omega) (zxu (by omega) hw01))), hmz, (fun j hj => ⟨(hk13 j hj).1, zFe_fr (hk13 j hj).2 (fun i _ _ => zxu (by omega) (zxu (by omega) (zxu (by omega) rfl)))⟩), ?_, (fun c j h0 h1 h2 h3 h4 => (zxu h4 (zxu h4 (zxu h4 ((fr c j h0 h1 h2 h3 h4).trans rfl))))), (fun c j h0 h1 => (zxu h1 (zxu h0 ((frL c j h0 h1).trans rfl))))⟩
      · intro j hj
        by_cases e : j = n
        · subst e
          have z := (hk13 j (by omega)).2
          refine ⟨?_, ?_, ?_⟩
          · exact zxs (by omega) (zxs (by omega) (zxe' (by omega) |>.trans (by refine e87.trans ?_; repeat (first | exact ((congrArg (I1 (k + 13)) (by omega)).trans (hk13 j (by omega)).2.1) | refine zxu (by omega) ?_ | refine zxs (by omega) ?_))))
          · exact zxs (by omega) (zxe' (by omega) |>.trans (by refine e87b.trans ?_; repeat (first | exact ((congrArg (I1 (k + 13)) (by omega)).trans (hk13 j (by omega)).2.2.1) | refine zxu (by omega) ?_ | refine zxs (by omega) ?_)))
          · exact zxe' (by omega) |>.trans (by refine e87bb.trans ?_; repeat (first | exact ((congrArg (I1 (k + 13)) (by omega)).trans (hk13 j (by omega)).2.2.2) | refine zxu (by omega) ?_ | refine zxs (by omega) ?_))
        · exact zFe_fr (hk14 j (by omega)) (fun i _ _ => zxs (by omega) (zxs (by omega) (zxs (by omega) rfl))))
def T_V_vio : ZT := fun args I L R S Q => ∃ (k : Nat) (w : List CuR) (P : Nat → Prop) (a : Int) (j : Nat) (b : Int) (y : Nat), args = [zvr k, zvi a, zvi b] ∧ (zSh S) ∧ (zRs R) ∧ (zDy zT14 zF14 k R S) ∧ (zFY k w P I) ∧ (a = j ∧ (j : Int) < I k 19) ∧ (b = y ∧ y ≤ 2) ∧ ∀ (v : Int) (I' : ZI), (v = cuFv (cuVx P j) y) → (-1 ≤ v ∧ v ≤ 60) → (∀ c j : Nat, ¬ (c = k ∧ j = 0) → I' c j = I c j) → Q (some (zvi (v))) I' L R S
theorem sn_V_vio : ZSnd 2 14 35 T_V_vio := ZSnd.of (zT14_35 1) (by
  rintro args I L R S Q hz ⟨k, w, P, a, j, b, y, rfl, hS, hR, hd, hFY, hj, hy, hQ⟩
  have hk5 := hd.1
  obtain ⟨hy0, hy1, hy2, hy3⟩ := id hFY
  obtain ⟨c, hc⟩ : ∃ c, I k 19 = c := ⟨_, rfl⟩
  have hcc := hc
  clear hy2
  refine And.intro rfl ?_
  refine And.intro (zDX hd 0 rfl) (Exists.intro _ (And.intro (zinl_ok (zT14_21 0)) (And.intro rfl ?_)))
  refine And.intro (by omega) ⟨fun h1_3 => ?_, fun h1_3 => ?_⟩
  · refine And.intro (Or.inl rfl) ?_
    refine And.intro (zRb rfl) (zbt rfl ?_)
    refine And.intro (zDX hd 0 rfl) ⟨_, (zWi (zRb rfl)), ?_⟩
    refine And.intro (zDX hd 0 rfl) (zrd (v := 1) zxe ?_)
    refine And.intro (zRb rfl) (zbf rfl ?_)
    refine hQ _ _ (by omega) (by omega) (fun c j h0 => (zxcj h0 rfl))
  · refine And.intro (zDX hd 0 rfl) (zrd (v := c) hc ?_)
    refine And.intro ⟨(by omega), (by omega)⟩ ⟨fun h9_3 => ?_, fun h9_3 => ?_⟩
    · refine And.intro (Or.inl rfl) ?_
      refine And.intro (zRb rfl) (zbt rfl ?_)
      refine And.intro (zDX hd 0 rfl) ⟨_, (zWi (zRb rfl)), ?_⟩
      refine And.intro (zDX hd 0 rfl) (zrd (v := 1) zxe ?_)
      refine And.intro (zRb rfl) (zbf rfl ?_)
      refine hQ _ _ (by omega) (by omega) (fun c j h0 => (zxcj h0 rfl))
    · refine And.intro (Or.inr rfl) ?_
      refine And.intro (zRb rfl) (zbf rfl ?_)
      refine And.intro (by omega) ⟨(fun h10 => False.elim (by omega)), fun h10 => ?_⟩
      refine And.intro ⟨(by omega), (zRb rfl)⟩ ⟨(fun h15 => False.elim (by omega)), fun h15 => ?_⟩
      refine And.intro (zDX hd 0 rfl) ⟨_, (zWi (zRb rfl)), ?_⟩
      refine And.intro (zDX hd 0 rfl) (zrd (v := 0) zxe ?_)
      refine And.intro (zRb rfl) (zbt rfl ?_)
      refine And.intro ⟨(by omega), (zRb rfl)⟩ ⟨(fun h37 => False.elim (by omega)), fun h37 => ?_⟩
      refine And.intro (zDX hd 0 rfl) (zrdR (v := some (k + 14)) (zDR hd 13 rfl) ?_)
      refine And.intro (zDP hd 14 rfl rfl (by omega) (by omega)) (fun v49 e49 r49 => ?_)
      have f49 : v49 = cuFv (cuVx P j) y := (by refine e49.trans ?_; repeat (first | exact ((congrArg (I (k + 14)) (by omega)).trans (cuFv_r (hy3 j (by omega)).2 hy.2)) | refine zxu (by omega) ?_ | refine zxs (by omega) ?_))
      have f49b : -1 ≤ v49 ∧ v49 ≤ 60 := (by have z := cuFv_b (x := cuVx P j) (y := y); omega)
      refine hQ _ _ (by omega) (by omega) (fun c j h0 => (zxcj h0 rfl)))
