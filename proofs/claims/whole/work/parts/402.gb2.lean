/-! gb2 -/
def T_G_let : ZT := fun args I L R S Q => ∃ (k : Nat) (q : Int) (s : BdS) (n : Nat) (x : Int), args = [zvr k, zvi x] ∧ (zDy zT17 zF17 k R S) ∧ (zBB k q s I L) ∧ (bGz s) ∧ (x = n ∧ n < bnn s) ∧ ∀ (I' : ZI), (zBB k q (bLet s n) I' L) → (∀ c j : Nat, ¬ c = k + 3 → ¬ c = k + 10 → ¬ c = k + 11 → I' c j = I c j) → Q none I' L R S
theorem sn_G_let : ZSnd 1 17 18 T_G_let := ZSnd.loops (zT17_18 0) (by
  rintro args I L R S Q hz ⟨k, q, s, n, x, rfl, hd, hBB, hGz, hxn, hQ⟩
  have h5 := hd.1
  obtain ⟨⟨hbw, hbh, hbd, hbs, hbn⟩, hcl, hco, hpc, hne, hpi⟩ := id hBB
  obtain ⟨⟨⟨gW1, gW2⟩, ⟨gH1, gH2⟩, ⟨gD1, gD2⟩, gB9⟩, ⟨gnp, gnn⟩, gco⟩ := id hGz
  obtain ⟨m1, m2, hKe⟩ := gWH hGz
  have hKd : bK s = bW s * bH s * bD s := rfl
  refine ⟨[2], fun nM tM lsM stM I1 L1 R1 S1 => match tM with
      | 2 => ∃ (c : Nat), nM = ((1025 - c), 0, 0) ∧ lsM = [some (zvr (k)), some (zvi (n)), some (zvi (c))] ∧ stM = [] ∧ L1 = L ∧ R1 = R ∧ S1 = S ∧ (c ≤ 1024) ∧ (∀ d : Nat, d < c → I1 (k + 3) d = if bho s d = n ∧ bpa s d = -1 then -1 else bho s d) ∧ (∀ d : Nat, c ≤ d → I1 (k + 3) d = I (k + 3) d) ∧ (∀ c j : Nat, ¬ c = k + 3 → I1 c j = I c j)
      | _ => False, rfl, ?_, ⟨?_, True.intro⟩⟩
  · refine ⟨((1025 - (0 : Nat)), 0, 0), [some (zvr (k)), some (zvi (n)), some (zvi ((0 : Nat)))], ⟨rfl, (congrArg (fun z => some (zvi z)) (by omega)), rfl, rfl⟩, 0, rfl, rfl, rfl, rfl, rfl, rfl, (by omega), (fun d h => absurd h (Nat.not_lt_zero d)), (fun _ _ => rfl), (fun c j h0 => rfl)⟩
  · rintro nM lsM stM I1 L1 R1 S1 hz1 ⟨c, rfl, rfl, rfl, rfl, rfl, rfl, hc, h1, h2, fr⟩
    refine And.intro ⟨(by omega), (zRb rfl)⟩ ⟨fun h6 => ?_, fun h6 => ?_⟩
    · refine And.intro (zDX hd 0 rfl) (zrdR (v := some (k + 10)) (zDR hd 9 rfl) ?_)
      refine And.intro ⟨(by show 40 ≤ _; omega), Or.inr ⟨(zDP hd 10 rfl rfl (by omega) (by omega)), (Or.inl rfl)⟩⟩ ?_
      refine And.intro (zDX hd 0 rfl) (zrdR (v := some (k + 11)) (zDR hd 10 rfl) ?_)
      refine And.intro ⟨(by show 40 ≤ _; omega), (zDP hd 11 rfl rfl (by omega) (by omega))⟩ ⟨_, (zWi (zRb rfl)), ?_⟩
      refine hQ _ ?_ (fun c j h0 h1 h2 => (zxu h2 (zxu h1 ((fr c j (by omega)).trans rfl))))
      · refine zBB_let hBB (fun d hd => ?_) (fun m => ?_) (fun m => ?_) (fun d j w => ?_) (fun _ _ _ => rfl)
        · exact zxu (by omega) (zxu (by omega) (h1 d (by omega)))
        · refine zxu (by omega) ?_
          by_cases e : m = n
          · rw [if_pos e, e]; exact zxe
          · rw [if_neg e]; exact zxs (by omega) (fr _ _ (by omega))
        · by_cases e : m = n
          · rw [if_pos e, e]; exact zxe
          · rw [if_neg e]; exact zxs (by omega) (zxu (by omega) (fr _ _ (by omega)))
        · exact zxu (by omega) (zxu (by omega) (fr _ _ (by omega)))
    · refine And.intro (zDX hd 0 rfl) (zrdR (v := some (k + 3)) (zDR hd 2 rfl) ?_)
      refine And.intro (zDX hd 0 rfl) (zrdR (v := some (k + 3)) (zDR hd 2 rfl) ?_)
      refine And.intro (zDP hd 3 rfl rfl (by omega) (by omega)) (fun v19 e19 r19 => ?_)
      have f19 : v19 = bho s c := (e19.trans ((congrArg (I1 (k + 3)) (by omega)).trans ((h2 c (by omega)).trans (hcl c (by omega)).1)))
      refine And.intro ⟨r19, (by omega)⟩ ⟨fun h21 => ?_, fun h21 => ?_⟩
      · refine And.intro (zDX hd 0 rfl) (zrdR (v := some (k + 3)) (zDR hd 2 rfl) ?_)
        refine And.intro (zDP hd 3 rfl rfl (by omega) (by omega)) (fun v42 e42 r42 => ?_)
        have f42 : v42 = bho s c := (e42.trans ((congrArg (I1 (k + 3)) (by omega)).trans ((h2 c (by omega)).trans (hcl c (by omega)).1)))
        refine And.intro ⟨(by show 40 ≤ _; omega), (zDP hd 3 rfl rfl (by omega) (by omega))⟩ ⟨_, (zWi r42), ?_⟩
        refine ⟨((1025 - (c + 1)), 0, 0), zlt6 (by omega), [some (zvr (k)), some (zvi (n)), some (zvi ((c + 1)))], ⟨rfl, rfl, rfl, rfl⟩, (c + 1), rfl, rfl, rfl, rfl, rfl, rfl, (by omega), ?_, (fun d hd => zxs (by omega) (h2 d (by omega))), (fun c j h0 => (zxu h0 ((fr c j (by omega)).trans rfl)))⟩
        · intro d hd
          by_cases e : d = c
          · subst e
            first
            | exact zxe.trans (if_pos ⟨by omega, by omega⟩).symm
            | exact zxe.trans (Eq.trans (by omega) (if_neg (fun w => by have w1 := w.1; have w2 := w.2; omega)).symm)
          · exact zxs (by omega) (h1 d (by omega))
      · refine And.intro (zDX hd 0 rfl) (zrdR (v := some (k + 4)) (zDR hd 3 rfl) ?_)
        refine And.intro (Or.inr (zDP hd 4 rfl rfl (by omega) (by omega))) (fun v29 e29 r29 => ?_)
        have f29 : (v29 = 0 ∧ bpa s c = -1) ∨ (v29 = 1 ∧ bpa s c ≠ -1) := (gIf (e29.trans ((congrArg (I1 (k + 4)) (by omega)).trans ((fr (k + 4) c (by omega)).trans (hcl c (by omega)).2.1))))
        refine And.intro r29 ⟨fun h30 => ?_, fun h30 => ?_⟩
        · refine And.intro (zDX hd 0 rfl) (zrdR (v := some (k + 3)) (zDR hd 2 rfl) ?_)
          refine And.intro (zDP hd 3 rfl rfl (by omega) (by omega)) (fun v42 e42 r42 => ?_)
          have f42 : v42 = bho s c := (e42.trans ((congrArg (I1 (k + 3)) (by omega)).trans ((h2 c (by omega)).trans (hcl c (by omega)).1)))
          refine And.intro ⟨(by show 40 ≤ _; omega), (zDP hd 3 rfl rfl (by omega) (by omega))⟩ ⟨_, (zWi r42), ?_⟩
          refine ⟨((1025 - (c + 1)), 0, 0), zlt6 (by omega), [some (zvr (k)), some (zvi (n)), some (zvi ((c + 1)))], ⟨rfl, rfl, rfl, rfl⟩, (c + 1), rfl, rfl, rfl, rfl, rfl, rfl, (by omega), ?_, (fun d hd => zxs (by omega) (h2 d (by omega))), (fun c j h0 => (zxu h0 ((fr c j (by omega)).trans rfl)))⟩
          · intro d hd
            by_cases e : d = c
            · subst e
              first
              | exact zxe.trans (if_pos ⟨by omega, by omega⟩).symm
              | exact zxe.trans (Eq.trans (by omega) (if_neg (fun w => by have w1 := w.1; have w2 := w.2; omega)).symm)
            · exact zxs (by omega) (h1 d (by omega))
        · refine And.intro ⟨(by show 40 ≤ _; omega), (zDP hd 3 rfl rfl (by omega) (by omega))⟩ ⟨_, (zWi (zRb rfl)), ?_⟩
          refine ⟨((1025 - (c + 1)), 0, 0), zlt6 (by omega), [some (zvr (k)), some (zvi (n)), some (zvi ((c + 1)))], ⟨rfl, rfl, rfl, rfl⟩, (c + 1), rfl, rfl, rfl, rfl, rfl, rfl, (by omega), ?_, (fun d hd => zxs (by omega) (h2 d (by omega))), (fun c j h0 => (zxu h0 ((fr c j (by omega)).trans rfl)))⟩
          · intro d hd
            by_cases e : d = c
            · subst e
              first
              | exact zxe.trans (if_pos ⟨by omega, by omega⟩).symm
              | exact zxe.trans (Eq.trans (by omega) (if_neg (fun w => by have w1 := w.1; have w2 := w.2; omega)).symm)
            · exact zxs (by omega) (h1 d (by omega)))
def T_G_come : ZT := fun args I L R S Q => ∃ (k : Nat) (q : Int) (s : BdS) (n : Nat) (x : Int) (y : Int) (c : Nat), args = [zvr k, zvi x, zvi y] ∧ (zDy zT17 zF17 k R S) ∧ (zBB k q s I L) ∧ (bGz s) ∧ (x = n ∧ n < bnn s) ∧ (y = c ∧ c < 1024) ∧ (∀ m, m < bnn s → bwl s m ≤ 1024) ∧ (bwl s n < 1024) ∧ ∀ (I' : ZI), (zBB k q (bWay s n c) I' L) → (I' (k + 17) = upF (I (k + 17)) c 1) → (∀ c j : Nat, ¬ c = k + 11 → ¬ c = k + 12 → ¬ c = k + 17 → I' c j = I c j) → Q none I' L R S
theorem sn_G_come : ZSnd 1 17 5 T_G_come := ZSnd.of (zT17_5 0) (by
  rintro args I L R S Q hz ⟨k, q, s, n, x, y, c, rfl, hd, hBB, hGz, hxn, hy, hw, hwn, hQ⟩
  have h5 := hd.1
  obtain ⟨⟨hbw, hbh, hbd, hbs, hbn⟩, hcl, hco, hpc, hne, hpi⟩ := id hBB
  obtain ⟨⟨⟨gW1, gW2⟩, ⟨gH1, gH2⟩, ⟨gD1, gD2⟩, gB9⟩, ⟨gnp, gnn⟩, gco⟩ := id hGz
  obtain ⟨m1, m2, hKe⟩ := gWH hGz
  have hKd : bK s = bW s * bH s * bD s := rfl
  have hwl : I (k + 11) n = bwl s n := (hne n hxn.2).2.1
  refine And.intro rfl ?_
  refine And.intro (zDX hd 0 rfl) (zrdR (v := some (k + 17)) (zDR hd 16 rfl) ?_)
  refine And.intro ⟨(by show 40 ≤ _; omega), Or.inr ⟨(zDP hd 17 rfl rfl (by omega) (by omega)), (Or.inr rfl)⟩⟩ ?_
  refine And.intro (zDX hd 0 rfl) (zrdR (v := some (k + 12)) (zDR hd 11 rfl) ?_)
  refine And.intro (zDX hd 0 rfl) (zrdR (v := some (k + 11)) (zDR hd 10 rfl) ?_)
  refine And.intro (zDP hd 11 rfl rfl (by omega) (by omega)) (fun v21 e21 r21 => ?_)
  have f21 : v21 = bwl s n := (e21.trans ((congrArg (xu I (k + 17) _ 1 (k + 11)) (by omega)).trans (zxu (by omega) hwl)))
  refine And.intro ⟨(by show 40 ≤ _; omega), (zDP hd 12 rfl rfl (by omega) (by omega))⟩ ⟨_, (zWi (by omega)), ?_⟩
  refine And.intro (zDX hd 0 rfl) (zrdR (v := some (k + 11)) (zDR hd 10 rfl) ?_)
  refine And.intro (zDP hd 11 rfl rfl (by omega) (by omega)) (fun v31 e31 r31 => ?_)
  have f31 : v31 = bwl s n := (e31.trans ((congrArg (xu (xu I (k + 17) _ 1) (k + 12) _ _ (k + 11)) (by omega)).trans (zxu (by omega) (zxu (by omega) hwl))))
  refine And.intro ⟨(by show 40 ≤ _; omega), (zDP hd 11 rfl rfl (by omega) (by omega))⟩ ⟨_, (zWi (by omega)), ?_⟩
  refine hQ _ ?_ (by rw [show c = y.toNat by omega]; exact (funext (fun j => zxu (by omega) (zxu (by omega) rfl))).trans xu_upF) (fun c j h0 h1 h2 => (zxu h0 (zxu h1 (zxu h2 rfl))))
  · refine zBB_way (c := c) hBB hxn.2 (fun m => ?_) (fun j => ?_) hw hwn (fun d j w => ?_) (fun _ _ _ => rfl)
    · by_cases e : m = n
      · rw [if_pos e, show m = x.toNat by omega]
        exact zxe.trans (by omega)
      · rw [if_neg e]
        exact zxs (by omega) (zxu (by omega) (zxu (by omega) rfl))
    · refine zxu (by omega) ?_
      by_cases e : j = 1024 * n + bwl s n
      · rw [if_pos e, show j = (1024 * x + v21).toNat by omega]
        exact zxe.trans (by omega)
      · rw [if_neg e]
        exact zxs (by omega) (zxu (by omega) rfl)
    · exact zxu (by omega) (zxu (by omega) (zxu (by omega) rfl)))
def T_G_srch : ZT := fun args I L R S Q => ∃ (k : Nat) (q : Int) (s : BdS) (n : Nat) (x : Int) (rr : Int) (hb_ : Nat), args = [zvr k, zvi x, zvi rr] ∧ (zDy zT17 zF17 k R S) ∧ (zBB k q s I L) ∧ (bGz s) ∧ (x = n ∧ n < bnn s) ∧ (rr = 0 ∨ rr = 1) ∧ ((∀ c, c < bK s → bhi s c ≤ hb_) ∧ hb_ ≤ 1000000) ∧ (∀ j : Nat, j < 1024 → I (k + 17) j = bTn s n j) ∧ ∀ (L' : ZI), (∀ d : Nat, d < bK s → L' (k + 16) d = bDn s n rr d) → (∀ c j : Nat, ¬ c = k + 16 → L' c j = L c j) → Q none I L' R S
theorem sn_G_srch : ZSnd 4 17 30 T_G_srch := ZSnd.loops (zT17_30 3) (by
  rintro args I L R S Q hz ⟨k, q, s, n, x, rr, hb_, rfl, hd, hBB, hGz, hxn, hrr, hbh9, htr, hQ⟩
  have h5 := hd.1
  obtain ⟨⟨hbw, hbh, hbd, hbs, hbn⟩, hcl, hco, hpc, hne, hpi⟩ := id hBB
  obtain ⟨⟨⟨gW1, gW2⟩, ⟨gH1, gH2⟩, ⟨gD1, gD2⟩, gB9⟩, ⟨gnp, gnn⟩, gco⟩ := id hGz
  obtain ⟨m1, m2, hKe⟩ := gWH hGz
  have hKd : bK s = bW s * bH s * bD s := rfl
  refine ⟨[18, 57, 68, 77], fun nM tM lsM stM I1 L1 R1 S1 => match tM with
      | 18 => ∃ (j : Nat), nM = ((2 * gMs ((hb_ + 352) * 1024) (fun d => zite (bTr s n d) 0 (-1)) (bK s) + 2), (1025 - j), 0) ∧ lsM = [some (zvr (k)), some (zvi (n)), some (zvi (rr)), some (zvi (bK s)), some (zvi (j)), none, none, none, none, none] ∧ stM = [] ∧ I1 = I ∧ R1 = R ∧ S1 = S ∧ (j ≤ bK s) ∧ (∀ d : Nat, d < j → L1 (k + 16) d = zite (bTr s n d) 0 (-1)) ∧ (∀ c j : Nat, ¬ c = k + 16 → L1 c j = L c j)
      | 57 => ∃ (mo : Int) (c : Nat), nM = ((2 * gMs ((hb_ + 352) * 1024) (L1 (k + 16)) (bK s) + mo.toNat), 1026, 0) ∧ lsM = [some (zvr (k)), some (zvi (n)), some (zvi (rr)), some (zvi (bK s)), some (zvi (mo)), none, none, none, none, none] ∧ stM = [] ∧ I1 = I ∧ R1 = R ∧ S1 = S ∧ (mo = 0 ∨ mo = 1) ∧ (gSx s n rr (bTr s n) (hb_ + 352) (L1 (k + 16)) mo c 0) ∧ (mo = 0 → c = bK s) ∧ (∀ c j : Nat, ¬ c = k + 16 → L1 c j = L c j)
      | 68 => ∃ (mo : Int) (c : Nat), nM = ((2 * gMs ((hb_ + 352) * 1024) (L1 (k + 16)) (bK s) + 1 + mo.toNat), (1025 - c), 7) ∧ lsM = [some (zvr (k)), some (zvi (n)), some (zvi (rr)), some (zvi (bK s)), some (zvi (mo)), some (zvi (c)), none, none, none, none] ∧ stM = [] ∧ I1 = I ∧ R1 = R ∧ S1 = S ∧ (mo = 0 ∨ mo = 1) ∧ (c ≤ bK s) ∧ (gSx s n rr (bTr s n) (hb_ + 352) (L1 (k + 16)) mo c 0) ∧ (∀ c j : Nat, ¬ c = k + 16 → L1 c j = L c j)
      | 77 => ∃ (mo : Int) (c : Nat) (x : Nat), nM = ((2 * gMs ((hb_ + 352) * 1024) (L1 (k + 16)) (bK s) + 1 + mo.toNat), (1025 - c), (6 - x)) ∧ lsM = [some (zvr (k)), some (zvi (n)), some (zvi (rr)), some (zvi (bK s)), some (zvi (mo)), some (zvi (c)), some (zvi (x)), none, none, none] ∧ stM = [] ∧ I1 = I ∧ R1 = R ∧ S1 = S ∧ (mo = 0 ∨ mo = 1) ∧ (c < bK s ∧ x ≤ 6) ∧ (gSx s n rr (bTr s n) (hb_ + 352) (L1 (k + 16)) mo c x) ∧ (∀ c j : Nat, ¬ c = k + 16 → L1 c j = L c j)
      | _ => False, rfl, ?_, ⟨?_, ?_, ?_, ?_, True.intro⟩⟩
  · refine And.intro (zDX hd 0 rfl) (zrd (v := (bW s)) hbw ?_)
    refine And.intro (zDX hd 0 rfl) (zrd (v := (bH s)) hbh ?_)
    refine And.intro (zDX hd 0 rfl) (zrd (v := (bD s)) hbd ?_)
    refine ⟨((2 * gMs ((hb_ + 352) * 1024) (fun d => zite (bTr s n d) 0 (-1)) (bK s) + 2), (1025 - (0 : Nat)), 0), [some (zvr (k)), some (zvi (n)), some (zvi (rr)), some (zvi (bK s)), some (zvi ((0 : Nat))), none, none, none, none, none], ⟨rfl, (congrArg (fun z => some (zvi z)) (by omega)), rfl, (congrArg (fun z => some (zvi z)) (by omega)), rfl, rfl⟩, 0, rfl, rfl, rfl, rfl, rfl, rfl, (by omega), (fun d h => absurd h (Nat.not_lt_zero d)), (fun c j h0 => rfl)⟩
  · rintro nM lsM stM I1 L1 R1 S1 hz1 ⟨j, rfl, rfl, rfl, rfl, rfl, rfl, hj, h1, frL⟩
    refine And.intro ⟨(by omega), (by omega)⟩ ⟨fun h21 => ?_, fun h21 => ?_⟩
    · refine ⟨((2 * gMs ((hb_ + 352) * 1024) (L1 (k + 16)) (bK s) + (1 : Int).toNat), 1026, 0), zlt6 (by have w := gMs_eq (U := ((hb_ + 352) * 1024)) (k := bK s) (D := L1 (k + 16)) (E := (fun d => zite (bTr s n d) 0 (-1))) (fun d hd => h1 d (by omega)); omega), [some (zvr (k)), some (zvi (n)), some (zvi (rr)), some (zvi (bK s)), some (zvi ((1 : Int))), none, none, none, none, none], ⟨rfl, rfl, rfl, rfl, rfl, rfl⟩, 1, 0, rfl, rfl, rfl, rfl, rfl, rfl, (Or.inr rfl), (gSx_0 (fun d hd => ⟨fun w => (h1 d (by omega)).trans (zite_t w), fun w => (h1 d (by omega)).trans (zite_f w)⟩)), (fun w => absurd w (by decide)), (fun c j h0 => ((frL c j (by omega)).trans rfl))⟩
    · refine And.intro (zDX hd 0 rfl) (zrdR (v := some (k + 16)) (zDR hd 15 rfl) ?_)
      refine And.intro (zDX hd 0 rfl) (zrdR (v := some (k + 17)) (zDR hd 16 rfl) ?_)
      refine And.intro (Or.inr (zDP hd 17 rfl rfl (by omega) (by omega))) (fun v36 e36 r36 => ?_)
      have f36 : v36 = bTn s n j := (e36.trans ((congrArg (I1 (k + 17)) (by omega)).trans (htr j (by omega))))
      refine And.intro r36 ⟨fun h37 => ?_, fun h37 => ?_⟩
      · refine And.intro ⟨(by show 40 ≤ _; omega), (zDP hd 16 rfl rfl (by omega) (by omega))⟩ ⟨_, zW6i (zRL rfl), ?_⟩
        refine ⟨((2 * gMs ((hb_ + 352) * 1024) (fun d => zite (bTr s n d) 0 (-1)) (bK s) + 2), (1025 - (j + 1)), 0), zlt6 (by omega), [some (zvr (k)), some (zvi (n)), some (zvi (rr)), some (zvi (bK s)), some (zvi ((j + 1))), none, none, none, none, none], ⟨rfl, rfl, rfl, rfl, rfl, rfl⟩, (j + 1), rfl, rfl, rfl, rfl, rfl, rfl, (by omega), ?_, (fun c j h0 => (zxu h0 ((frL c j (by omega)).trans rfl)))⟩
        · intro d hd
          by_cases e : d = j
          · subst e
            have w := f36
            unfold bTn at w
            by_cases e2 : bTr s n d
            · rw [zite_t e2]
              rw [zite_t e2] at w
              first
              | (exfalso; omega)
              | exact zxe
            · rw [zite_f e2]
              rw [zite_f e2] at w
              first
              | (exfalso; omega)
              | exact zxe
          · exact zxs (by omega) (h1 d (by omega))
      · refine And.intro ⟨(by show 40 ≤ _; omega), (zDP hd 16 rfl rfl (by omega) (by omega))⟩ ⟨_, zW6i (zRL rfl), ?_⟩
        refine ⟨((2 * gMs ((hb_ + 352) * 1024) (fun d => zite (bTr s n d) 0 (-1)) (bK s) + 2), (1025 - (j + 1)), 0), zlt6 (by omega), [some (zvr (k)), some (zvi (n)), some (zvi (rr)), some (zvi (bK s)), some (zvi ((j + 1))), none, none, none, none, none], ⟨rfl, rfl, rfl, rfl, rfl, rfl⟩, (j + 1), rfl, rfl, rfl, rfl, rfl, rfl, (by omega), ?_, (fun c j h0 => (zxu h0 ((frL c j (by omega)).trans rfl)))⟩
        · intro d hd
          by_cases e : d = j
          · subst e
            have w := f36
            unfold bTn at w
            by_cases e2 : bTr s n d
            · rw [zite_t e2]
              rw [zite_t e2] at w
              first
              | (exfalso; omega)
              | exact zxe
            · rw [zite_f e2]
              rw [zite_f e2] at w
              first
              | (exfalso; omega)
              | exact zxe
          · exact zxs (by omega) (h1 d (by omega))
  · rintro nM lsM stM I1 L1 R1 S1 hz1 ⟨mo, c, rfl, rfl, rfl, rfl, rfl, rfl, hmo, hx1, hc0, frL⟩
    refine And.intro (by omega) ⟨fun h59 => ?_, fun h59 => ?_⟩
    · refine hQ _ (gSx_end gB9 (by obtain rfl : mo = 0 := (by omega); exact hx1) (hc0 (by omega))) (fun c j h0 => ((frL c j (by omega)).trans rfl))
    · refine ⟨((2 * gMs ((hb_ + 352) * 1024) (L1 (k + 16)) (bK s) + 1 + (0 : Int).toNat), (1025 - (0 : Nat)), 7), zlt6 (by omega), [some (zvr (k)), some (zvi (n)), some (zvi (rr)), some (zvi (bK s)), some (zvi ((0 : Int))), some (zvi ((0 : Nat))), none, none, none, none], ⟨rfl, rfl, rfl, rfl, rfl, rfl, rfl⟩, 0, 0, rfl, rfl, rfl, rfl, rfl, rfl, (Or.inl rfl), (by omega), (gSx_mo hx1), (fun c j h0 => ((frL c j (by omega)).trans rfl))⟩
  · rintro nM lsM stM I1 L1 R1 S1 hz1 ⟨mo, c, rfl, rfl, rfl, rfl, rfl, rfl, hmo, hc, hx1, frL⟩
    refine And.intro ⟨(by omega), (by omega)⟩ ⟨fun h71 => ?_, fun h71 => ?_⟩
    · refine ⟨((2 * gMs ((hb_ + 352) * 1024) (L1 (k + 16)) (bK s) + mo.toNat), 1026, 0), zlt6 (by omega), [some (zvr (k)), some (zvi (n)), some (zvi (rr)), some (zvi (bK s)), some (zvi (mo)), none, none, none, none, none], ⟨rfl, rfl, rfl, rfl, rfl, rfl⟩, mo, c, rfl, rfl, rfl, rfl, rfl, rfl, (by first | exact hmo | (clear hQ; grind [xu])), hx1, (fun _ => by omega), (fun c j h0 => ((frL c j (by omega)).trans rfl))⟩
    · refine ⟨((2 * gMs ((hb_ + 352) * 1024) (L1 (k + 16)) (bK s) + 1 + mo.toNat), (1025 - c), (6 - (0 : Nat))), zlt6 (by omega), [some (zvr (k)), some (zvi (n)), some (zvi (rr)), some (zvi (bK s)), some (zvi (mo)), some (zvi (c)), some (zvi ((0 : Nat))), none, none, none], ⟨rfl, rfl, rfl, rfl, rfl, rfl, rfl, rfl⟩, mo, c, 0, rfl, rfl, rfl, rfl, rfl, rfl, (by first | exact hmo | (clear hQ; grind [xu])), (by omega), hx1, (fun c j h0 => ((frL c j (by omega)).trans rfl))⟩
  · rintro nM lsM stM I1 L1 R1 S1 hz1 ⟨mo, c, x, rfl, rfl, rfl, rfl, rfl, rfl, hmo, hc, hx1, frL⟩
    have hDl : ∀ d, d < bK s → -1 ≤ L1 (k + 16) d ∧ L1 (k + 16) d ≤ ((hb_ + 352) * 1024 : Nat) := fun d hd => gSx_le hx1 gB9 hd
    refine And.intro ⟨(by omega), (zRb rfl)⟩ ⟨fun h81 => ?_, fun h81 => ?_⟩
    · refine ⟨((2 * gMs ((hb_ + 352) * 1024) (L1 (k + 16)) (bK s) + 1 + mo.toNat), (1025 - (c + 1)), 7), zlt6 (by omega), [some (zvr (k)), some (zvi (n)), some (zvi (rr)), some (zvi (bK s)), some (zvi (mo)), some (zvi ((c + 1))), none, none, none, none], ⟨rfl, rfl, rfl, rfl, rfl, rfl, rfl⟩, mo, (c + 1), rfl, rfl, rfl, rfl, rfl, rfl, (by first | exact hmo | (clear hQ; grind [xu])), (by omega), ?_, (fun c j h0 => ((frL c j (by omega)).trans rfl))⟩
      · first
        | exact gSx_row hx1 (Or.inl (by omega))
        | exact gSx_row hx1 (Or.inr (by omega))
    · refine And.intro (zDX hd 0 rfl) (zrdR (v := some (k + 16)) (zDR hd 15 rfl) ?_)
      refine And.intro (zDP hd 16 rfl rfl (by omega) (by omega)) (fun v90 e90 r90 => ?_)
      have f90 : v90 = L1 (k + 16) c := (e90.trans (congrArg (L1 (k + 16)) (by omega)))
      refine ⟨_, _, ⟨zW6i r90, zW6i (zRL rfl)⟩, fun z92 c92 => ?_⟩
      refine And.intro c92.2.2 ⟨fun h93 => ?_, fun h93 => ?_⟩
      · refine ⟨((2 * gMs ((hb_ + 352) * 1024) (L1 (k + 16)) (bK s) + 1 + mo.toNat), (1025 - (c + 1)), 7), zlt6 (by omega), [some (zvr (k)), some (zvi (n)), some (zvi (rr)), some (zvi (bK s)), some (zvi (mo)), some (zvi ((c + 1))), none, none, none, none], ⟨rfl, rfl, rfl, rfl, rfl, rfl, rfl⟩, mo, (c + 1), rfl, rfl, rfl, rfl, rfl, rfl, (by first | exact hmo | (clear hQ; grind [xu])), (by omega), ?_, (fun c j h0 => ((frL c j (by omega)).trans rfl))⟩
        · first
          | exact gSx_row hx1 (Or.inl (by omega))
          | exact gSx_row hx1 (Or.inr (by omega))
      · refine And.intro (zDX hd 0 rfl) ⟨_, sn_G_nb.up (by decide), ?_⟩
        refine ⟨k, _, s, (c : Int), c, (x : Int), x, rfl, hd, (by first | exact (zBB_fr hBB (fun c j h => rfl) (fun c j h => ((frL c j (by omega)).trans rfl))) | exact (zBB_fr hBB (fun c j h => rfl) (fun c j h => ((frL c j (by omega)).trans rfl))) | (clear hQ; grind [xu])), (by first | exact hGz | (clear hQ; grind [xu])), (by omega), hc.1, (by omega), ?_⟩
        intro v101o p101hv p101bhv2
        have g101 : v101o = bnb s c x := p101hv
        refine And.intro (zDX hd 0 rfl) ⟨_, sn_G_can.up (by decide), ?_⟩
        refine ⟨k, _, s, (n : Int), (v101o : Int), (rr : Int), rfl, hd, (by first | exact (zBB_fr hBB (fun c j h => rfl) (fun c j h => ((frL c j (by omega)).trans rfl))) | exact (zBB_fr hBB (fun c j h => rfl) (fun c j h => ((frL c j (by omega)).trans rfl))) | (clear hQ; grind [xu])), (by first | exact hGz | (clear hQ; grind [xu])), (by omega), (by omega), (by first | exact hrr | (clear hQ; grind [xu])), ?_⟩
        intro v111o p111hv
        refine And.intro (by omega) ⟨fun h114 => ?_, fun h114 => ?_⟩
        · refine And.intro (zDX hd 0 rfl) (zrdR (v := some (k + 16)) (zDR hd 15 rfl) ?_)
          refine And.intro (zDP hd 16 rfl rfl (by omega) (by omega)) (fun v126 e126 r126 => ?_)
          have f126 : v126 = L1 (k + 16) c := (e126.trans (congrArg (L1 (k + 16)) (by omega)))
          have f126b : 0 ≤ v126 ∧ v126 ≤ 1100000000 := (by have w := hDl c hc.1; omega)
          refine And.intro (zDX hd 0 rfl) ⟨_, sn_G_step.up (by decide), ?_⟩
          refine ⟨k, _, s, (n : Int), (c : Int), c, (x : Int), x, (v101o : Int), v101o.toNat, rr, hb_, rfl, hd, (by first | exact (zBB_fr hBB (fun c j h => rfl) (fun c j h => ((frL c j (by omega)).trans rfl))) | exact (zBB_fr hBB (fun c j h => rfl) (fun c j h => ((frL c j (by omega)).trans rfl))) | (clear hQ; grind [xu])), (by first | exact hGz | (clear hQ; grind [xu])), (by omega), hc.1, (by omega), (by omega), (by omega), (by rw [← g101]; omega), (by omega), (by first | exact hrr | (clear hQ; grind [xu])), ⟨hbh9.1 v101o.toNat (by omega), hbh9.2⟩, ?_⟩
          intro v136o p136hv p136bhv2
          refine And.intro (zDX hd 0 rfl) (zrdR (v := some (k + 16)) (zDR hd 15 rfl) ?_)
          refine And.intro (zDP hd 16 rfl rfl (by omega) (by omega)) (fun v148 e148 r148 => ?_)
          have f148 : v148 = L1 (k + 16) v101o.toNat := e148
          refine ⟨_, _, ⟨zW6i r148, zW6i (zRL rfl)⟩, fun z150 c150 => ?_⟩
          refine And.intro c150.2.2 ⟨fun h151 => ?_, fun h151 => ?_⟩
          · refine And.intro (zDX hd 0 rfl) (zrdR (v := some (k + 16)) (zDR hd 15 rfl) ?_)
            refine And.intro ⟨(by show 40 ≤ _; omega), (zDP hd 16 rfl rfl (by omega) (by omega))⟩ ⟨_, zW6i (by omega), ?_⟩
            refine ⟨((2 * gMs ((hb_ + 352) * 1024) ((xu L1 (k + 16) v101o.toNat (v126 + v136o)) (k + 16)) (bK s) + 1 + (1 : Int).toNat), (1025 - c), (6 - (x + 1))), zlt6 (by first | omega | (have w8 := ((gSx_up (s := s) hx1 (by omega) (by omega) (by omega) (p101hv.symm.trans (Int.toNat_of_nonneg (by omega)).symm : bnb s c x = ((v101o.toNat : Nat) : Int)) (by omega) (by omega) (v := v126 + v136o) (by rw [f126, p136hv, gSt_tl (by omega)]; omega) (by have w1 := bStp_le hGz (c := c) (by omega) x; have w2 := bTl_le hGz (c := v101o.toNat) (by omega) n rr (hbh9.1 v101o.toNat (by omega)); omega) (by omega) (x + 1))).2; have w9 := gMs_up (U := ((hb_ + 352) * 1024)) (D := L1 (k + 16)) (d := v101o.toNat) (k := bK s) (v := v126 + v136o) (by omega) ⟨by omega, (gSx_le ((gSx_up (s := s) hx1 (by omega) (by omega) (by omega) (p101hv.symm.trans (Int.toNat_of_nonneg (by omega)).symm : bnb s c x = ((v101o.toNat : Nat) : Int)) (by omega) (by omega) (v := v126 + v136o) (by rw [f126, p136hv, gSt_tl (by omega)]; omega) (by have w1 := bStp_le hGz (c := c) (by omega) x; have w2 := bTl_le hGz (c := v101o.toNat) (by omega) n rr (hbh9.1 v101o.toNat (by omega)); omega) (by omega) (x + 1))).1 gB9 (d := v101o.toNat) (by omega)).2 |> (fun q9 => by rw [upF_at] at q9; exact q9)⟩ (by omega); rw [← xu_upF] at w9; omega)), [some (zvr (k)), some (zvi (n)), some (zvi (rr)), some (zvi (bK s)), some (zvi ((1 : Int))), some (zvi (c)), some (zvi ((x + 1))), none, none, none], ⟨rfl, rfl, rfl, rfl, rfl, rfl, rfl, rfl⟩, 1, c, (x + 1), rfl, rfl, rfl, rfl, rfl, rfl, (by first | exact hmo | exact Or.inr rfl), (by omega), ?_, (fun c j h0 => (zxu h0 ((frL c j (by omega)).trans rfl)))⟩
            · first
              | exact gSx_ext ((gSx_up (s := s) hx1 (by omega) (by omega) (by omega) (p101hv.symm.trans (Int.toNat_of_nonneg (by omega)).symm : bnb s c x = ((v101o.toNat : Nat) : Int)) (by omega) (by omega) (v := v126 + v136o) (by rw [f126, p136hv, gSt_tl (by omega)]; omega) (by have w1 := bStp_le hGz (c := c) (by omega) x; have w2 := bTl_le hGz (c := v101o.toNat) (by omega) n rr (hbh9.1 v101o.toNat (by omega)); omega) (by omega) (x + 1))).1 xu_upF
              | exact gSx_nx hx1 (fun d hd => by
                  have hd2 : v101o = (d : Int) := p101hv.trans hd
                  have hd3 : v101o.toNat = d := (by omega)
                  refine Or.inr ?_
                  have w := p136hv
                  rw [gSt_tl (by rcases p111hv with w | w; exact w.2.2; exfalso; omega), hd3] at w
                  rw [← hd3]
                  rw [← hd3] at w
                  omega)
              | exact gSx_nx hx1 (fun d hd => by
                  have hd2 : v101o = (d : Int) := p101hv.trans hd
                  have hd3 : v101o.toNat = d := (by omega)
                  rw [hd3] at p111hv
                  rcases p111hv with w | w
                  · exfalso; omega
                  · rcases w.2 with w2 | w2
                    · exfalso; omega
                    · exact Or.inl w2)
          · refine And.intro (zDX hd 0 rfl) (zrdR (v := some (k + 16)) (zDR hd 15 rfl) ?_)
            refine And.intro (zDP hd 16 rfl rfl (by omega) (by omega)) (fun v160 e160 r160 => ?_)
            have f160 : v160 = L1 (k + 16) v101o.toNat := e160
            refine ⟨_, _, ⟨zW6i r160, zW6i (by omega)⟩, fun z163 c163 => ?_⟩
            refine And.intro c163.2.2 ⟨fun h164 => ?_, fun h164 => ?_⟩
            · refine And.intro (zDX hd 0 rfl) (zrdR (v := some (k + 16)) (zDR hd 15 rfl) ?_)
              refine And.intro ⟨(by show 40 ≤ _; omega), (zDP hd 16 rfl rfl (by omega) (by omega))⟩ ⟨_, zW6i (by omega), ?_⟩
              refine ⟨((2 * gMs ((hb_ + 352) * 1024) ((xu L1 (k + 16) v101o.toNat (v126 + v136o)) (k + 16)) (bK s) + 1 + (1 : Int).toNat), (1025 - c), (6 - (x + 1))), zlt6 (by first | omega | (have w8 := ((gSx_up (s := s) hx1 (by omega) (by omega) (by omega) (p101hv.symm.trans (Int.toNat_of_nonneg (by omega)).symm : bnb s c x = ((v101o.toNat : Nat) : Int)) (by omega) (by omega) (v := v126 + v136o) (by rw [f126, p136hv, gSt_tl (by omega)]; omega) (by have w1 := bStp_le hGz (c := c) (by omega) x; have w2 := bTl_le hGz (c := v101o.toNat) (by omega) n rr (hbh9.1 v101o.toNat (by omega)); omega) (by omega) (x + 1))).2; have w9 := gMs_up (U := ((hb_ + 352) * 1024)) (D := L1 (k + 16)) (d := v101o.toNat) (k := bK s) (v := v126 + v136o) (by omega) ⟨by omega, (gSx_le ((gSx_up (s := s) hx1 (by omega) (by omega) (by omega) (p101hv.symm.trans (Int.toNat_of_nonneg (by omega)).symm : bnb s c x = ((v101o.toNat : Nat) : Int)) (by omega) (by omega) (v := v126 + v136o) (by rw [f126, p136hv, gSt_tl (by omega)]; omega) (by have w1 := bStp_le hGz (c := c) (by omega) x; have w2 := bTl_le hGz (c := v101o.toNat) (by omega) n rr (hbh9.1 v101o.toNat (by omega)); omega) (by omega) (x + 1))).1 gB9 (d := v101o.toNat) (by omega)).2 |> (fun q9 => by rw [upF_at] at q9; exact q9)⟩ (by omega); rw [← xu_upF] at w9; omega)), [some (zvr (k)), some (zvi (n)), some (zvi (rr)), some (zvi (bK s)), some (zvi ((1 : Int))), some (zvi (c)), some (zvi ((x + 1))), none, none, none], ⟨rfl, rfl, rfl, rfl, rfl, rfl, rfl, rfl⟩, 1, c, (x + 1), rfl, rfl, rfl, rfl, rfl, rfl, (by first | exact hmo | exact Or.inr rfl), (by omega), ?_, (fun c j h0 => (zxu h0 ((frL c j (by omega)).trans rfl)))⟩
              · first
                | exact gSx_ext ((gSx_up (s := s) hx1 (by omega) (by omega) (by omega) (p101hv.symm.trans (Int.toNat_of_nonneg (by omega)).symm : bnb s c x = ((v101o.toNat : Nat) : Int)) (by omega) (by omega) (v := v126 + v136o) (by rw [f126, p136hv, gSt_tl (by omega)]; omega) (by have w1 := bStp_le hGz (c := c) (by omega) x; have w2 := bTl_le hGz (c := v101o.toNat) (by omega) n rr (hbh9.1 v101o.toNat (by omega)); omega) (by omega) (x + 1))).1 xu_upF
                | exact gSx_nx hx1 (fun d hd => by
                    have hd2 : v101o = (d : Int) := p101hv.trans hd
                    have hd3 : v101o.toNat = d := (by omega)
                    refine Or.inr ?_
                    have w := p136hv
                    rw [gSt_tl (by rcases p111hv with w | w; exact w.2.2; exfalso; omega), hd3] at w
                    rw [← hd3]
                    rw [← hd3] at w
                    omega)
                | exact gSx_nx hx1 (fun d hd => by
                    have hd2 : v101o = (d : Int) := p101hv.trans hd
                    have hd3 : v101o.toNat = d := (by omega)
                    rw [hd3] at p111hv
                    rcases p111hv with w | w
                    · exfalso; omega
                    · rcases w.2 with w2 | w2
                      · exfalso; omega
                      · exact Or.inl w2)
            · refine ⟨((2 * gMs ((hb_ + 352) * 1024) (L1 (k + 16)) (bK s) + 1 + mo.toNat), (1025 - c), (6 - (x + 1))), zlt6 (by first | omega | (have w8 := ((gSx_up (s := s) hx1 (by omega) (by omega) (by omega) (p101hv.symm.trans (Int.toNat_of_nonneg (by omega)).symm : bnb s c x = ((v101o.toNat : Nat) : Int)) (by omega) (by omega) (v := v126 + v136o) (by rw [f126, p136hv, gSt_tl (by omega)]; omega) (by have w1 := bStp_le hGz (c := c) (by omega) x; have w2 := bTl_le hGz (c := v101o.toNat) (by omega) n rr (hbh9.1 v101o.toNat (by omega)); omega) (by omega) (x + 1))).2; have w9 := gMs_up (U := ((hb_ + 352) * 1024)) (D := L1 (k + 16)) (d := v101o.toNat) (k := bK s) (v := v126 + v136o) (by omega) ⟨by omega, (gSx_le ((gSx_up (s := s) hx1 (by omega) (by omega) (by omega) (p101hv.symm.trans (Int.toNat_of_nonneg (by omega)).symm : bnb s c x = ((v101o.toNat : Nat) : Int)) (by omega) (by omega) (v := v126 + v136o) (by rw [f126, p136hv, gSt_tl (by omega)]; omega) (by have w1 := bStp_le hGz (c := c) (by omega) x; have w2 := bTl_le hGz (c := v101o.toNat) (by omega) n rr (hbh9.1 v101o.toNat (by omega)); omega) (by omega) (x + 1))).1 gB9 (d := v101o.toNat) (by omega)).2 |> (fun q9 => by rw [upF_at] at q9; exact q9)⟩ (by omega); rw [← xu_upF] at w9; omega)), [some (zvr (k)), some (zvi (n)), some (zvi (rr)), some (zvi (bK s)), some (zvi (mo)), some (zvi (c)), some (zvi ((x + 1))), none, none, none], ⟨rfl, rfl, rfl, rfl, rfl, rfl, rfl, rfl⟩, mo, c, (x + 1), rfl, rfl, rfl, rfl, rfl, rfl, (by first | exact hmo | exact Or.inr rfl), (by omega), ?_, (fun c j h0 => ((frL c j (by omega)).trans rfl))⟩
              · first
                | exact gSx_ext ((gSx_up (s := s) hx1 (by omega) (by omega) (by omega) (p101hv.symm.trans (Int.toNat_of_nonneg (by omega)).symm : bnb s c x = ((v101o.toNat : Nat) : Int)) (by omega) (by omega) (v := v126 + v136o) (by rw [f126, p136hv, gSt_tl (by omega)]; omega) (by have w1 := bStp_le hGz (c := c) (by omega) x; have w2 := bTl_le hGz (c := v101o.toNat) (by omega) n rr (hbh9.1 v101o.toNat (by omega)); omega) (by omega) (x + 1))).1 xu_upF
                | exact gSx_nx hx1 (fun d hd => by
                    have hd2 : v101o = (d : Int) := p101hv.trans hd
                    have hd3 : v101o.toNat = d := (by omega)
                    refine Or.inr ?_
                    have w := p136hv
                    rw [gSt_tl (by rcases p111hv with w | w; exact w.2.2; exfalso; omega), hd3] at w
                    rw [← hd3]
                    rw [← hd3] at w
                    omega)
                | exact gSx_nx hx1 (fun d hd => by
                    have hd2 : v101o = (d : Int) := p101hv.trans hd
                    have hd3 : v101o.toNat = d := (by omega)
                    rw [hd3] at p111hv
                    rcases p111hv with w | w
                    · exfalso; omega
                    · rcases w.2 with w2 | w2
                      · exfalso; omega
                      · exact Or.inl w2)
        · refine ⟨((2 * gMs ((hb_ + 352) * 1024) (L1 (k + 16)) (bK s) + 1 + mo.toNat), (1025 - c), (6 - (x + 1))), zlt6 (by first | omega | (have w8 := ((gSx_up (s := s) hx1 (by omega) (by omega) (by omega) (p101hv.symm.trans (Int.toNat_of_nonneg (by omega)).symm : bnb s c x = ((v101o.toNat : Nat) : Int)) (by omega) (by omega) (v := v126 + v136o) (by rw [f126, p136hv, gSt_tl (by omega)]; omega) (by have w1 := bStp_le hGz (c := c) (by omega) x; have w2 := bTl_le hGz (c := v101o.toNat) (by omega) n rr (hbh9.1 v101o.toNat (by omega)); omega) (by omega) (x + 1))).2; have w9 := gMs_up (U := ((hb_ + 352) * 1024)) (D := L1 (k + 16)) (d := v101o.toNat) (k := bK s) (v := v126 + v136o) (by omega) ⟨by omega, (gSx_le ((gSx_up (s := s) hx1 (by omega) (by omega) (by omega) (p101hv.symm.trans (Int.toNat_of_nonneg (by omega)).symm : bnb s c x = ((v101o.toNat : Nat) : Int)) (by omega) (by omega) (v := v126 + v136o) (by rw [f126, p136hv, gSt_tl (by omega)]; omega) (by have w1 := bStp_le hGz (c := c) (by omega) x; have w2 := bTl_le hGz (c := v101o.toNat) (by omega) n rr (hbh9.1 v101o.toNat (by omega)); omega) (by omega) (x + 1))).1 gB9 (d := v101o.toNat) (by omega)).2 |> (fun q9 => by rw [upF_at] at q9; exact q9)⟩ (by omega); rw [← xu_upF] at w9; omega)), [some (zvr (k)), some (zvi (n)), some (zvi (rr)), some (zvi (bK s)), some (zvi (mo)), some (zvi (c)), some (zvi ((x + 1))), none, none, none], ⟨rfl, rfl, rfl, rfl, rfl, rfl, rfl, rfl⟩, mo, c, (x + 1), rfl, rfl, rfl, rfl, rfl, rfl, (by first | exact hmo | exact Or.inr rfl), (by omega), ?_, (fun c j h0 => ((frL c j (by omega)).trans rfl))⟩
          · first
            | exact gSx_ext ((gSx_up (s := s) hx1 (by omega) (by omega) (by omega) (p101hv.symm.trans (Int.toNat_of_nonneg (by omega)).symm : bnb s c x = ((v101o.toNat : Nat) : Int)) (by omega) (by omega) (v := v126 + v136o) (by rw [f126, p136hv, gSt_tl (by omega)]; omega) (by have w1 := bStp_le hGz (c := c) (by omega) x; have w2 := bTl_le hGz (c := v101o.toNat) (by omega) n rr (hbh9.1 v101o.toNat (by omega)); omega) (by omega) (x + 1))).1 xu_upF
            | exact gSx_nx hx1 (fun d hd => by
                have hd2 : v101o = (d : Int) := p101hv.trans hd
                have hd3 : v101o.toNat = d := (by omega)
                refine Or.inr ?_
                have w := p136hv
                rw [gSt_tl (by rcases p111hv with w | w; exact w.2.2; exfalso; omega), hd3] at w
                rw [← hd3]
                rw [← hd3] at w
                omega)
            | exact gSx_nx hx1 (fun d hd => by
                have hd2 : v101o = (d : Int) := p101hv.trans hd
                have hd3 : v101o.toNat = d := (by omega)
                rw [hd3] at p111hv
                rcases p111hv with w | w
                · exfalso; omega
                · rcases w.2 with w2 | w2
                  · exfalso; omega
                  · exact Or.inl w2))
