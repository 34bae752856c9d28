/-! gb6 -/
def T_G_open : ZT := fun args I L R S Q => ∃ (k : Nat) (q : Int) (s : BdS) (n : Nat) (x : Int), args = [zvr k, zvi x] ∧ (zDy zT17 zF17 k R S) ∧ (zBB k q s I L) ∧ (bGd s) ∧ (x = n ∧ n < bnn s) ∧ ∀ (v : Int), ((v = 1 ∧ 0 < bN s n 1 ∧ bN s n 2 ≠ 1) ∨ (v = 0 ∧ ¬ (0 < bN s n 1 ∧ bN s n 2 ≠ 1))) → Q (some (zvi (v))) I L R S
theorem sn_G_open : ZSnd 1 17 14 T_G_open := ZSnd.of (zT17_14 0) (by
  rintro args I L R S Q hz ⟨k, q, s, n, x, rfl, hd, hBB, hGd, hxn, hQ⟩
  have hGz := bGd_z hGd
  have h5 := hd.1
  obtain ⟨⟨hbw, hbh, hbd, hbs, hbn⟩, hcl, hco, hpc, hne, hpi⟩ := id hBB
  obtain ⟨⟨⟨gW1, gW2⟩, ⟨gH1, gH2⟩, ⟨gD1, gD2⟩, gB9⟩, ⟨gnp, gnn⟩, gco⟩ := id hGz
  obtain ⟨m1, m2, hKe⟩ := gWH hGz
  have hKd : bK s = bW s * bH s * bD s := rfl
  have hc3 := (hGd.2.2.2.2.1 n hxn.2).2.2.1
  refine And.intro rfl ?_
  refine And.intro (zDX hd 0 rfl) (zrdR (v := some (k + 1)) (zDR hd 0 rfl) ?_)
  refine And.intro (zDP hd 1 rfl rfl (by omega) (by omega)) (fun v5 e5 r5 => ?_)
  have f5 : v5 = bN s n 1 := (e5.trans ((congrArg (I (k + 1)) (by omega)).trans ((hpc n (by omega)).1.trans (hGd.2.2.2.2.1 n hxn.2).1.symm)))
  refine And.intro r5 ⟨fun h6 => ?_, fun h6 => ?_⟩
  · refine And.intro (Or.inl rfl) ?_
    refine hQ _ (by clear hQ; grind [xu])
  · refine And.intro (zDX hd 0 rfl) (zrdR (v := some (k + 10)) (zDR hd 9 rfl) ?_)
    refine And.intro (Or.inr (zDP hd 10 rfl rfl (by omega) (by omega))) (fun v14 e14 r14 => ?_)
    have f14 : v14 = bN s n 2 := (e14.trans ((congrArg (I (k + 10)) (by omega)).trans (hne n hxn.2).1))
    refine And.intro r14 ⟨fun h15 => ?_, fun h15 => ?_⟩
    · refine And.intro (Or.inl rfl) ?_
      refine hQ _ (by clear hQ; grind [xu])
    · refine And.intro (Or.inr rfl) ?_
      refine hQ _ (by clear hQ; grind [xu]))
def T_G_opens : ZT := fun args I L R S Q => ∃ (k : Nat) (q : Int) (s : BdS), args = [zvr k] ∧ (zDy zT17 zF17 k R S) ∧ (zBB k q s I L) ∧ (bGd s) ∧ ∀ (v : Int), (v = bOpn s (bnn s)) → Q (some (zvi (v))) I L R S
theorem sn_G_opens : ZSnd 2 17 23 T_G_opens := ZSnd.loops (zT17_23 1) (by
  rintro args I L R S Q hz ⟨k, q, s, rfl, hd, hBB, hGd, hQ⟩
  have hGz := bGd_z hGd
  have h5 := hd.1
  obtain ⟨⟨hbw, hbh, hbd, hbs, hbn⟩, hcl, hco, hpc, hne, hpi⟩ := id hBB
  obtain ⟨⟨⟨gW1, gW2⟩, ⟨gH1, gH2⟩, ⟨gD1, gD2⟩, gB9⟩, ⟨gnp, gnn⟩, gco⟩ := id hGz
  obtain ⟨m1, m2, hKe⟩ := gWH hGz
  have hKd : bK s = bW s * bH s * bD s := rfl
  refine ⟨[4], fun nM tM lsM stM I1 L1 R1 S1 => match tM with
      | 4 => ∃ (j : Nat), nM = ((13 - j), 0, 0) ∧ lsM = [some (zvr (k)), some (zvi (bOpn s j)), some (zvi (j))] ∧ stM = [] ∧ I1 = I ∧ L1 = L ∧ R1 = R ∧ S1 = S ∧ (j ≤ bnn s)
      | _ => False, rfl, ?_, ⟨?_, True.intro⟩⟩
  · refine ⟨((13 - (0 : Nat)), 0, 0), [some (zvr (k)), some (zvi (bOpn s (0 : Nat))), some (zvi ((0 : Nat)))], ⟨rfl, (congrArg (fun z => some (zvi z)) rfl), rfl, rfl⟩, 0, rfl, rfl, rfl, rfl, rfl, rfl, rfl, (by omega)⟩
  · rintro nM lsM stM I1 L1 R1 S1 hz1 ⟨j, rfl, rfl, rfl, rfl, rfl, rfl, rfl, hj⟩
    have hle := bOpn_le s j
    have hsx : bOpn s (j + 1) = bOpn s j + (if 0 < bN s j 1 ∧ bN s j 2 ≠ 1 then 1 else 0) := rfl
    refine And.intro (zDX hd 0 rfl) (zrd (v := (bnn s)) hbn ?_)
    refine And.intro ⟨(by omega), (by omega)⟩ ⟨fun h9 => ?_, fun h9 => ?_⟩
    · refine hQ _ (by obtain rfl : j = bnn s := (by omega); rfl)
    · refine And.intro (zDX hd 0 rfl) ⟨_, sn_G_open.up (by decide), ?_⟩
      refine ⟨k, _, s, j, (j : Int), rfl, hd, (by first | exact (zBB_fr hBB (fun c j h => rfl) (fun c j h => rfl)) | (clear hQ; grind [xu])), (by first | exact hGd | (clear hQ; grind [xu])), ⟨rfl, by omega⟩, ?_⟩
      intro v15o p15hv
      refine And.intro (by omega) ⟨fun h18 => ?_, fun h18 => ?_⟩
      · refine ⟨((13 - (j + 1)), 0, 0), zlt6 (by omega), [some (zvr (k)), some (zvi (bOpn s (j + 1))), some (zvi ((j + 1)))], ⟨rfl, (congrArg (fun z => some (zvi z)) (by
  rcases p15hv with w | w
  · first
    | (exfalso; omega)
    | (rw [hsx, if_pos w.2]; rfl)
  · first
    | (exfalso; omega)
    | (rw [hsx, if_neg w.2]; rfl))), rfl, rfl⟩, (j + 1), rfl, rfl, rfl, rfl, rfl, rfl, rfl, (by omega)⟩
      · refine ⟨((13 - (j + 1)), 0, 0), zlt6 (by omega), [some (zvr (k)), some (zvi (bOpn s (j + 1))), some (zvi ((j + 1)))], ⟨rfl, (congrArg (fun z => some (zvi z)) (by
  rcases p15hv with w | w
  · first
    | (exfalso; omega)
    | (rw [hsx, if_pos w.2]; rfl)
  · first
    | (exfalso; omega)
    | (rw [hsx, if_neg w.2]; rfl))), rfl, rfl⟩, (j + 1), rfl, rfl, rfl, rfl, rfl, rfl, rfl, (by omega)⟩)
def T_G_draw : ZT := fun args I L R S Q => ∃ (k : Nat) (q : Int) (s : BdS), args = [zvr k] ∧ (zDy zT17 zF17 k R S) ∧ (zBB k q s I L) ∧ ∀ (v : Int) (L' : ZI), (v = bDr s) → (zBB k q (bs_sd s (bSe s)) I L') → (∀ c j : Nat, ¬ (c = k ∧ j = 4) → L' c j = L c j) → Q (some (zvl (v))) I L' R S
theorem sn_G_draw : ZSnd 1 17 8 T_G_draw := ZSnd.of (zT17_8 0) (by
  rintro args I L R S Q hz ⟨k, q, s, rfl, hd, hBB, hQ⟩
  have h5 := hd.1
  obtain ⟨⟨hbw, hbh, hbd, hbs, hbn⟩, hcl, hco, hpc, hne, hpi⟩ := id hBB
  refine And.intro rfl ?_
  refine And.intro (zDX hd 0 rfl) (zrdL (v := (bsd s)) hbs ?_)
  refine And.intro (zDX hd 0 rfl) ⟨_, zW6t _, ?_⟩
  refine And.intro (zDX hd 0 rfl) (zrdL (v := (zn6 (((bsd s) * 6364136223846793005) + 1442695040888963407))) zxe ?_)
  refine hQ _ _ rfl ⟨⟨hbw, hbh, hbd, zxe, hbn⟩, fun c hc => ⟨(hcl c hc).1, (hcl c hc).2.1, (hcl c hc).2.2.1, zxu (by omega) (hcl c hc).2.2.2⟩, hco, hpc, fun n hn => ⟨(hne n hn).1, (hne n hn).2.1, (hne n hn).2.2.1, fun w => ⟨((hne n hn).2.2.2.1 w).1, fun w2 => zxu (by omega) (((hne n hn).2.2.2.1 w).2 w2)⟩, (hne n hn).2.2.2.2⟩, hpi⟩ (fun c j h0 => (zxcj h0 rfl)))
def T_G_turn : ZT := fun args I L R S Q => ∃ (k : Nat) (s : BdS) (hb_ : Nat) (rb : Nat), args = [zvr k] ∧ (zDy zT17 zF17 k R S) ∧ (zBB k (-1) s I L) ∧ (bGd s) ∧ (∀ c, c < 1024 → bhi s c ≤ hb_) ∧ (∀ m, m < bnn s → 0 ≤ bN s m 4 ∧ bN s m 4 ≤ rb) ∧ (hb_ + 17 ≤ 400000) ∧ (rb + 65 ≤ 1900000000) ∧ ∀ (I' : ZI) (L' : ZI), (zBB k (-1) (bGr s) I' L') → (bGd (bGr s) ∧ (∀ c, c < 1024 → bhi (bGr s) c ≤ hb_ + 12) ∧ (∀ m, m < bnn (bGr s) → 0 ≤ bN (bGr s) m 4 ∧ bN (bGr s) m 4 ≤ rb + 60) ∧ bnn (bGr s) = bnn s) → (∀ c j : Nat, ¬ c = k + 3 → ¬ c = k + 10 → ¬ c = k + 11 → ¬ c = k + 12 → ¬ c = k + 14 → ¬ c = k + 15 → ¬ c = k + 17 → ¬ c = k + 18 → ¬ (c = k ∧ j = 21) → I' c j = I c j) → (∀ c j : Nat, ¬ c = k + 6 → ¬ c = k + 13 → ¬ c = k + 16 → ¬ (c = k ∧ j = 4) → L' c j = L c j) → Q none I' L' R S
theorem sn_G_turn : ZSnd 7 17 33 T_G_turn := ZSnd.loops (zT17_33 6) (by
  rintro args I L R S Q hz ⟨k, s, hb_, rb, rfl, hd, hBB, hGd, hhi, hrp, hhb, hrb, hQ⟩
  have hGz := bGd_z hGd
  have h5 := hd.1
  obtain ⟨⟨hbw, hbh, hbd, hbs, hbn⟩, hcl, hco, hpc, hne, hpi⟩ := id hBB
  obtain ⟨⟨⟨gW1, gW2⟩, ⟨gH1, gH2⟩, ⟨gD1, gD2⟩, gB9⟩, ⟨gnp, gnn⟩, gco⟩ := id hGz
  obtain ⟨m1, m2, hKe⟩ := gWH hGz
  have hKd : bK s = bW s * bH s * bD s := rfl
  have hop := bOpn_le s
  refine ⟨[4, 43, 94], fun nM tM lsM stM I1 L1 R1 S1 => match tM with
      | 4 => ∃ (o : Nat), nM = (4, (13 - o), 0) ∧ lsM = [some (zvr (k)), some (zvi (bOpn s o)), some (zvi (o)), none, none] ∧ stM = [] ∧ L1 = L ∧ R1 = R ∧ S1 = S ∧ (o ≤ bnn s) ∧ ((∀ j : Nat, j < bOpn s o → I1 (k + 18) j = bOf s o j)) ∧ (∀ c j : Nat, ¬ c = k + 18 → I1 c j = I c j)
      | 43 => ∃ (t : BdS) (f : Nat → Nat) (z : Int), nM = (3, (z + 1 : Int).toNat, 0) ∧ lsM = [some (zvr (k)), some (zvi (bOpn s (bnn s))), some (zvi (z)), none, none] ∧ stM = [] ∧ R1 = R ∧ S1 = S ∧ (-1 ≤ z ∧ z + 1 ≤ bOpn s (bnn s)) ∧ (bSw z.toNat (t, f) = bSw (bOpn s (bnn s) - 1) (s, bOf s (bnn s))) ∧ (t = bs_sd s (bsd t)) ∧ (zBB k (-1) t I1 L1) ∧ ((∀ j : Nat, j < bOpn s (bnn s) → I1 (k + 18) j = f j)) ∧ ((∀ j : Nat, j < bOpn s (bnn s) → f j < bnn s)) ∧ (∀ c j : Nat, ¬ c = k + 18 → I1 c j = I c j) ∧ (∀ c j : Nat, ¬ (c = k ∧ j = 4) → L1 c j = L c j)
      | 94 => ∃ (t : BdS) (f : Nat → Nat) (o : Nat), nM = (2, (13 - o), 0) ∧ lsM = [some (zvr (k)), some (zvi (bOpn s (bnn s))), some (zvi (o)), none, none] ∧ stM = [] ∧ R1 = R ∧ S1 = S ∧ (o ≤ bOpn s (bnn s)) ∧ (bGr s = bRd f t (bOpn s (bnn s))) ∧ ((∀ j : Nat, j < bOpn s (bnn s) → f j < bnn s)) ∧ ((∀ j : Nat, j < bOpn s (bnn s) → I1 (k + 18) j = f j)) ∧ (zBB k (-1) (bRd f t o) I1 L1) ∧ (bGd (bRd f t o) ∧ (∀ c, c < 1024 → bhi (bRd f t o) c ≤ hb_ + o) ∧ (∀ m, m < bnn (bRd f t o) → 0 ≤ bN (bRd f t o) m 4 ∧ bN (bRd f t o) m 4 ≤ rb + 5 * o) ∧ bnn (bRd f t o) = bnn s) ∧ (∀ c j : Nat, ¬ c = k + 3 → ¬ c = k + 10 → ¬ c = k + 11 → ¬ c = k + 12 → ¬ c = k + 14 → ¬ c = k + 15 → ¬ c = k + 17 → ¬ c = k + 18 → ¬ (c = k ∧ j = 21) → I1 c j = I c j) ∧ (∀ c j : Nat, ¬ c = k + 6 → ¬ c = k + 13 → ¬ c = k + 16 → ¬ (c = k ∧ j = 4) → L1 c j = L c j)
      | _ => False, rfl, ?_, ⟨?_, ?_, ?_, True.intro⟩⟩
  · refine ⟨(4, (13 - (0 : Nat)), 0), [some (zvr (k)), some (zvi (bOpn s (0 : Nat))), some (zvi ((0 : Nat))), none, none], ⟨rfl, (congrArg (fun z => some (zvi z)) rfl), rfl, rfl⟩, 0, rfl, rfl, rfl, rfl, rfl, rfl, (by omega), (fun j h => absurd h (Nat.not_lt_zero j)), (fun c j h0 => rfl)⟩
  · rintro nM lsM stM I1 L1 R1 S1 hz1 ⟨o, rfl, rfl, rfl, rfl, rfl, rfl, hk, ho, fr⟩
    have hok := hop o
    refine And.intro (zDX hd 0 rfl) (zrd (v := (bnn s)) ((fr k 5 (by omega)).trans hbn) ?_)
    refine And.intro ⟨(by omega), (by omega)⟩ ⟨fun h9 => ?_, fun h9 => ?_⟩
    · refine ⟨(3, (((bOpn s o : Int) - 1) + 1 : Int).toNat, 0), zlt6 (by omega), [some (zvr (k)), some (zvi (bOpn s (bnn s))), some (zvi (((bOpn s o : Int) - 1))), none, none], ⟨rfl, (congrArg (fun z => some (zvi z)) (by rw [show o = bnn s by omega])), (congrArg (fun z => some (zvi z)) (by omega)), rfl⟩, s, (bOf s (bnn s)), ((bOpn s o : Int) - 1), rfl, rfl, rfl, rfl, rfl, (by rw [show o = bnn s by omega]; omega), (by rw [show o = bnn s by omega, show ((bOpn s (bnn s) : Int) - 1).toNat = bOpn s (bnn s) - 1 by omega]), rfl, (zBB_fr hBB (fun c j h => fr c j (by omega)) (fun c j h => rfl)), (by have e : o = bnn s := (by omega); subst e; exact ho), (fun j hj => bOf_lt s (bnn s) j hj), (fun c j h0 => ((fr c j (by omega)).trans rfl)), (fun c j h0 => rfl)⟩
    · refine And.intro (zDX hd 0 rfl) ⟨_, sn_G_open.up (by decide), ?_⟩
      refine ⟨k, (-1), s, o, (o : Int), rfl, hd, (by first | exact (zBB_fr hBB (fun c j h => ((fr c j (by omega)).trans rfl)) (fun c j h => rfl)) | (clear hQ; grind [xu])), (by first | exact hGd | (clear hQ; grind [xu])), ⟨rfl, by omega⟩, ?_⟩
      intro v14o p14hv
      refine And.intro (by omega) ⟨fun h17 => ?_, fun h17 => ?_⟩
      · refine And.intro (zDX hd 0 rfl) (zrdR (v := some (k + 18)) (zDR hd 17 rfl) ?_)
        refine And.intro ⟨(by show 40 ≤ _; omega), (zDP hd 18 rfl rfl (by omega) (by omega))⟩ ⟨_, (zWi (by omega)), ?_⟩
        refine ⟨(4, (13 - (o + 1)), 0), zlt6 (by omega), [some (zvr (k)), some (zvi (bOpn s (o + 1))), some (zvi ((o + 1))), none, none], ⟨rfl, (congrArg (fun z => some (zvi z)) (by
  have e : bOpn s (o + 1) = bOpn s o + (if 0 < bN s o 1 ∧ bN s o 2 ≠ 1 then 1 else 0) := rfl
  rcases p14hv with w | w
  · rw [e, if_pos w.2]
    omega
  · rw [e, if_neg w.2]
    omega)), rfl, rfl⟩, (o + 1), rfl, rfl, rfl, rfl, rfl, rfl, (by omega), ?_, (fun c j h0 => (zxu h0 ((fr c j (by omega)).trans rfl)))⟩
        · have e : bOpn s (o + 1) = bOpn s o + (if 0 < bN s o 1 ∧ bN s o 2 ≠ 1 then 1 else 0) := rfl
          have e2 : bOf s (o + 1) = if 0 < bN s o 1 ∧ bN s o 2 ≠ 1 then upF (bOf s o) (bOpn s o) o else bOf s o := rfl
          rcases p14hv with w | w
          · first
            | (exfalso; omega)
            | (rw [e, e2, if_pos w.2, if_pos w.2]
               intro j hj
               by_cases q : j = bOpn s o
               · rw [q, upF_at]
                 exact zxe
               · rw [upF_ne q]
                 exact zxs (by omega) (ho j (by omega)))
          · first
            | (exfalso; omega)
            | (rw [e, e2, if_neg w.2, if_neg w.2]
               exact ho)
      · refine ⟨(4, (13 - (o + 1)), 0), zlt6 (by omega), [some (zvr (k)), some (zvi (bOpn s (o + 1))), some (zvi ((o + 1))), none, none], ⟨rfl, (congrArg (fun z => some (zvi z)) (by
  have e : bOpn s (o + 1) = bOpn s o + (if 0 < bN s o 1 ∧ bN s o 2 ≠ 1 then 1 else 0) := rfl
  rcases p14hv with w | w
  · rw [e, if_pos w.2]
    omega
  · rw [e, if_neg w.2]
    omega)), rfl, rfl⟩, (o + 1), rfl, rfl, rfl, rfl, rfl, rfl, (by omega), ?_, (fun c j h0 => ((fr c j (by omega)).trans rfl))⟩
        · have e : bOpn s (o + 1) = bOpn s o + (if 0 < bN s o 1 ∧ bN s o 2 ≠ 1 then 1 else 0) := rfl
          have e2 : bOf s (o + 1) = if 0 < bN s o 1 ∧ bN s o 2 ≠ 1 then upF (bOf s o) (bOpn s o) o else bOf s o := rfl
          rcases p14hv with w | w
          · first
            | (exfalso; omega)
            | (rw [e, e2, if_pos w.2, if_pos w.2]
               intro j hj
               by_cases q : j = bOpn s o
               · rw [q, upF_at]
                 exact zxe
               · rw [upF_ne q]
                 exact zxs (by omega) (ho j (by omega)))
          · first
            | (exfalso; omega)
            | (rw [e, e2, if_neg w.2, if_neg w.2]
               exact ho)
  · rintro nM lsM stM I1 L1 R1 S1 hz1 ⟨t, f, z, rfl, rfl, rfl, rfl, rfl, hz, hlk, ht, hB, ho, hf, fr, frL⟩
    have hok := hop (bnn s)
    refine And.intro (by omega) ⟨fun h44 => ?_, fun h44 => ?_⟩
    · refine ⟨(2, (13 - (0 : Nat)), 0), zlt6 (by omega), [some (zvr (k)), some (zvi (bOpn s (bnn s))), some (zvi ((0 : Nat))), none, none], ⟨rfl, rfl, rfl, rfl⟩, t, f, 0, rfl, rfl, rfl, rfl, rfl, (by omega), (by unfold bGr; rw [← hlk, show z.toNat = 0 by omega]; rfl), (by first | exact hf | (clear hQ; grind [xu])), (by first | exact ho | (clear hQ; grind [xu])), hB, ?_, (fun c j h0 h1 h2 h3 h4 h5 h6 h7 h8 => ((fr c j (by omega)).trans rfl)), (fun c j h0 h1 h2 h3 => ((frL c j (by omega)).trans rfl))⟩
      · rw [show bRd f t 0 = t from rfl, ht]
        refine ⟨hGd, hhi, fun m hm => ?_, rfl⟩
        show 0 ≤ bN s m 4 ∧ bN s m 4 ≤ (rb : Int) + 5 * ((0 : Nat) : Int)
        have := hrp m hm
        omega
    · refine And.intro (zDX hd 0 rfl) ⟨_, sn_G_draw.up (by decide), ?_⟩
      refine ⟨k, (-1), t, rfl, hd, hB, ?_⟩
      intro v48o L48o p48hv p48bhBB2 p48bbfrL
      have g48 : 0 ≤ v48o := (by rw [p48hv]; exact (zlushr33 _).1)
      have g48b : v48o ≤ 2147483647 := (by rw [p48hv]; have := (zlushr33 (bSe t)).2; unfold bDr; omega)
      refine And.intro (by omega) ?_
      refine ⟨_, _, ⟨(zW6i (by omega)), (zW6i (by omega)), (by omega)⟩, (zdv (by omega) (fun q55 e55 => ?_))⟩
      have f55 : 0 ≤ q55 ∧ q55 ≤ z := (by rw [e55]; exact ⟨Int.emod_nonneg _ (by omega), by have := Int.emod_lt_of_pos v48o (show 0 < z + 1 by omega); omega⟩)
      refine ⟨_, (zWi (by omega)), ?_⟩
      refine And.intro (zDX hd 0 rfl) (zrdR (v := some (k + 18)) (zDR hd 17 rfl) ?_)
      refine And.intro (zDP hd 18 rfl rfl (by omega) (by omega)) (fun v63 e63 r63 => ?_)
      have f63 : v63 = f z.toNat := (e63.trans (ho z.toNat (by omega)))
      refine And.intro (zDX hd 0 rfl) (zrdR (v := some (k + 18)) (zDR hd 17 rfl) ?_)
      refine And.intro (zDX hd 0 rfl) (zrdR (v := some (k + 18)) (zDR hd 17 rfl) ?_)
      refine And.intro (zDP hd 18 rfl rfl (by omega) (by omega)) (fun v76 e76 r76 => ?_)
      have f76 : v76 = f q55.toNat := (e76.trans (ho q55.toNat (by omega)))
      refine And.intro ⟨(by show 40 ≤ _; omega), (zDP hd 18 rfl rfl (by omega) (by omega))⟩ ⟨_, (zWi r76), ?_⟩
      refine And.intro (zDX hd 0 rfl) (zrdR (v := some (k + 18)) (zDR hd 17 rfl) ?_)
      refine And.intro ⟨(by show 40 ≤ _; omega), (zDP hd 18 rfl rfl (by omega) (by omega))⟩ ⟨_, (zWi r63), ?_⟩
      refine ⟨(3, ((z + (-1)) + 1 : Int).toNat, 0), zlt6 (by omega), [some (zvr (k)), some (zvi (bOpn s (bnn s))), some (zvi ((z + (-1)))), none, none], ⟨rfl, rfl, rfl, rfl⟩, (bs_sd t (bSe t)), (upF (upF f z.toNat (f q55.toNat)) q55.toNat (f z.toNat)), (z + (-1)), rfl, rfl, rfl, rfl, rfl, (by omega), ?_, (by rw [ht]), (zBB_fr p48bhBB2 (fun c j h => zxu (by omega) (zxu (by omega) rfl)) (fun c j h => rfl)), ?_, ?_, (fun c j h0 => (zxu h0 (zxu h0 ((fr c j (by omega)).trans rfl)))), (fun c j h0 => ((p48bbfrL c j (by omega)).trans ((frL c j (by omega)).trans rfl)))⟩
      · obtain ⟨y, hy⟩ : ∃ y, z.toNat = y + 1 := ⟨z.toNat - 1, by omega⟩
        have e7 : (bDr t % ((y : Int) + 2)) = q55 := by rw [e55, p48hv, show z + 1 = (y : Int) + 2 by omega]
        have e8 : bSw (y + 1) (t, f) = bSw y (bs_sd t (bSe t), upF (upF f (y + 1) (f (bDr t % ((y : Int) + 2)).toNat)) (bDr t % ((y : Int) + 2)).toNat (f (y + 1))) := rfl
        rw [hy, e8, e7] at hlk
        rw [hy, show (z + (-1)).toNat = y by omega]
        exact hlk
      · intro j hj
        unfold upF
        by_cases e : j = q55.toNat
        · rw [if_pos e, e]
          exact zxe.trans f63
        · rw [if_neg e]
          refine zxs e ?_
          by_cases e2 : j = z.toNat
          · rw [if_pos e2, e2]
            exact zxe.trans f76
          · rw [if_neg e2]
            exact zxs e2 (ho j hj)
      · intro j hj
        unfold upF
        split
        · exact hf _ (by omega)
        · split
          · exact hf _ (by omega)
          · exact hf j hj
  · rintro nM lsM stM I1 L1 R1 S1 hz1 ⟨t, f, o, rfl, rfl, rfl, rfl, rfl, hk, hlk, hf, ho, hB, hG, fr, frL⟩
    have hok := hop (bnn s)
    refine And.intro ⟨(by omega), (by omega)⟩ ⟨fun h96 => ?_, fun h96 => ?_⟩
    · refine And.intro (zDX hd 0 rfl) (fun v130 e130 r130 => ?_)
      refine And.intro (zDX hd 0 rfl) ⟨_, zWt _, ?_⟩
      refine hQ _ _ (by rw [hlk, show bOpn s (bnn s) = o by omega]; exact zBB_fr hB (fun c j h => zxcj (by omega) rfl) (fun c j h => rfl)) ?_ (fun c j h0 h1 h2 h3 h4 h5 h6 h7 h8 => (zxcj h8 ((fr c j (by omega) (by omega) (by omega) (by omega) (by omega) (by omega) (by omega) (by omega) (by omega)).trans rfl))) (fun c j h0 h1 h2 h3 => ((frL c j (by omega) (by omega) (by omega) (by omega)).trans rfl))
      · rw [hlk, show bOpn s (bnn s) = o by omega]
        obtain ⟨h1, h2, h3, h4⟩ := id hG
        exact ⟨h1, fun c hc => by have := h2 c hc; omega, fun m hm => by have := h3 m hm; omega, h4⟩
    · refine And.intro (zDX hd 0 rfl) (zrdR (v := some (k + 18)) (zDR hd 17 rfl) ?_)
      refine And.intro (zDP hd 18 rfl rfl (by omega) (by omega)) (fun v105 e105 r105 => ?_)
      have f105 : v105 = f o := (e105.trans (ho o (by omega)))
      refine And.intro (zDX hd 0 rfl) ⟨_, sn_G_open.up (by decide), ?_⟩
      refine ⟨k, (-1), (bRd f t o), (f o), (v105 : Int), rfl, hd, hB, hG.1, ⟨f105, by rw [hG.2.2.2]; exact hf o (by omega)⟩, ?_⟩
      intro v106o p106hv
      refine And.intro (by omega) ⟨fun h109 => ?_, fun h109 => ?_⟩
      · refine ⟨(2, (13 - (o + 1)), 0), zlt6 (by omega), [some (zvr (k)), some (zvi (bOpn s (bnn s))), some (zvi ((o + 1))), none, none], ⟨rfl, rfl, rfl, rfl⟩, t, f, (o + 1), rfl, rfl, rfl, rfl, rfl, (by omega), (by omega), (by first | exact hf | (clear hQ; grind [xu])), (by first | exact ho | (clear hQ; grind [xu])), ?_, ?_, (fun c j h0 h1 h2 h3 h4 h5 h6 h7 h8 => ((fr c j (by omega) (by omega) (by omega) (by omega) (by omega) (by omega) (by omega) (by omega) (by omega)).trans rfl)), (fun c j h0 h1 h2 h3 => ((frL c j (by omega) (by omega) (by omega) (by omega)).trans rfl))⟩
        · have e0 : bRd f t (o + 1) = if 0 < bN (bRd f t o) (f o) 1 ∧ bN (bRd f t o) (f o) 2 ≠ 1 then bLd (bRd f t o) (f o) else bRd f t o := rfl
          rcases p106hv with w | w
          · first
            | (exfalso; omega)
            | (rw [e0, if_pos w.2]
               exact p119hBB2)
          · first
            | (exfalso; omega)
            | (rw [e0, if_neg w.2]
               exact hB)
        · have e0 : bRd f t (o + 1) = if 0 < bN (bRd f t o) (f o) 1 ∧ bN (bRd f t o) (f o) 2 ≠ 1 then bLd (bRd f t o) (f o) else bRd f t o := rfl
          obtain ⟨h1, h2, h3, h4⟩ := id hG
          rw [e0]
          by_cases w : 0 < bN (bRd f t o) (f o) 1 ∧ bN (bRd f t o) (f o) 2 ≠ 1
          · rw [if_pos w]
            have hn : f o < bnn (bRd f t o) := by rw [h4]; exact hf o (by omega)
            have g := bLd_gd (hb := hb_ + o) (rb := rb + 5 * o) h1 hn w.1 (bGd_02 h1 hn w.2) h2 (fun m hm => by have := h3 m hm; omega)
            exact ⟨g.1, fun c hc => by have := g.2.1 c hc; omega, fun m hm => by have := g.2.2 m hm; omega, (bLd_kp _ _).2.2.2.2.2.2.1.trans h4⟩
          · rw [if_neg w]
            exact ⟨h1, fun c hc => by have := h2 c hc; omega, fun m hm => by have := h3 m hm; omega, h4⟩
      · refine And.intro (zDX hd 0 rfl) (zrdR (v := some (k + 18)) (zDR hd 17 rfl) ?_)
        refine And.intro (zDP hd 18 rfl rfl (by omega) (by omega)) (fun v118 e118 r118 => ?_)
        have f118 : v118 = f o := (e118.trans (ho o (by omega)))
        refine And.intro (zDX hd 0 rfl) ⟨_, sn_G_lead.up (by decide), ?_⟩
        refine ⟨k, (bRd f t o), (f o), (v118 : Int), (hb_ + o), (rb + 5 * o), rfl, hd, hB, hG.1, ⟨f118, by rw [hG.2.2.2]; exact hf o (by omega)⟩, (p106hv.resolve_right (fun w => by have := w.1; omega)).2.1, (bGd_02 hG.1 (by rw [hG.2.2.2]; exact hf o (by omega)) (p106hv.resolve_right (fun w => by have := w.1; omega)).2.2), hG.2.1, (fun m hm => by have := hG.2.2.1 m hm; omega), (by omega), (by omega), ?_⟩
        intro I119o L119o p119hBB2 p119bfr p119bbfrL
        refine ⟨(2, (13 - (o + 1)), 0), zlt6 (by omega), [some (zvr (k)), some (zvi (bOpn s (bnn s))), some (zvi ((o + 1))), none, none], ⟨rfl, rfl, rfl, rfl⟩, t, f, (o + 1), rfl, rfl, rfl, rfl, rfl, (by omega), (by omega), (by first | exact hf | (clear hQ; grind [xu])), (by first | exact ho | (clear hQ; grind [xu])), ?_, ?_, (fun c j h0 h1 h2 h3 h4 h5 h6 h7 h8 => ((p119bfr c j (by omega) (by omega) (by omega) (by omega) (by omega) (by omega) (by omega)).trans ((fr c j (by omega) (by omega) (by omega) (by omega) (by omega) (by omega) (by omega) (by omega) (by omega)).trans rfl))), (fun c j h0 h1 h2 h3 => ((p119bbfrL c j (by omega) (by omega) (by omega)).trans ((frL c j (by omega) (by omega) (by omega) (by omega)).trans rfl)))⟩
        · have e0 : bRd f t (o + 1) = if 0 < bN (bRd f t o) (f o) 1 ∧ bN (bRd f t o) (f o) 2 ≠ 1 then bLd (bRd f t o) (f o) else bRd f t o := rfl
          rcases p106hv with w | w
          · first
            | (exfalso; omega)
            | (rw [e0, if_pos w.2]
               exact p119hBB2)
          · first
            | (exfalso; omega)
            | (rw [e0, if_neg w.2]
               exact hB)
        · have e0 : bRd f t (o + 1) = if 0 < bN (bRd f t o) (f o) 1 ∧ bN (bRd f t o) (f o) 2 ≠ 1 then bLd (bRd f t o) (f o) else bRd f t o := rfl
          obtain ⟨h1, h2, h3, h4⟩ := id hG
          rw [e0]
          by_cases w : 0 < bN (bRd f t o) (f o) 1 ∧ bN (bRd f t o) (f o) 2 ≠ 1
          · rw [if_pos w]
            have hn : f o < bnn (bRd f t o) := by rw [h4]; exact hf o (by omega)
            have g := bLd_gd (hb := hb_ + o) (rb := rb + 5 * o) h1 hn w.1 (bGd_02 h1 hn w.2) h2 (fun m hm => by have := h3 m hm; omega)
            exact ⟨g.1, fun c hc => by have := g.2.1 c hc; omega, fun m hm => by have := g.2.2 m hm; omega, (bLd_kp _ _).2.2.2.2.2.2.1.trans h4⟩
          · rw [if_neg w]
            exact ⟨h1, fun c hc => by have := h2 c hc; omega, fun m hm => by have := h3 m hm; omega, h4⟩)
