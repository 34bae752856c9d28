/-! sr -/
def T_A_out : ZT := fun args I L R S Q => ∃ (b : Nat) (s : BdS) (a : Int) (c : Nat) (n : Int) (tr : Nat → Int), args = [zvr 98, zvi a, zvi n] ∧ (zSh S) ∧ (zRs R) ∧ (zBA b s I L) ∧ (bGz s) ∧ (a = c) ∧ (c < bK s) ∧ (r32 n) ∧ (∀ j : Nat, j < 1024 → I 101 j = tr j) ∧ ∀ (v : Int), ((v = 1 ∧ bOut s n tr c) ∨ (v = 0 ∧ ¬ bOut s n tr c)) → Q (some (zvi (v))) I L R S
theorem sn_A_out : ZSnd 1 6 7 T_A_out := ZSnd.of (zT6_7 0) (by
  rintro args I L R S Q hz ⟨b, s, a, c, n, tr, rfl, hS, hR, hBA, hGz, ha, hc, hr, htr, hQ⟩
  obtain ⟨⟨hb0, hbw, hbh, hbd, hbs⟩, hnb, hcl, hPT, hNT, hwy, hco, hnd⟩ := id hBA
  obtain ⟨hP1, hP2, hP3, hP4⟩ := id hPT
  obtain ⟨hN1, hN2, hN3, hN4⟩ := id hNT
  obtain ⟨⟨⟨gW1, gW2⟩, ⟨gH1, gH2⟩, ⟨gD1, gD2⟩, gB9⟩, ⟨gnp, gnn⟩, gco⟩ := id hGz
  have h1024 : c < 1024 := Nat.lt_of_lt_of_le hc gB9
  have hKe : bK s = bW s * bH s * bD s := rfl
  refine And.intro rfl ?_
  refine And.intro (zA_98 hS) (zrdR (v := some 82) (zR_98_0 hR) ?_)
  refine And.intro (zA_82 hS) (zrdR (v := some 87) (zR_82_9 hR) ?_)
  refine And.intro (zP_87 hS (by omega) (by omega)) (fun v8 e8 r8 => ?_)
  have f8 : v8 = bpa s c := (e8.trans ((congrArg (I 87) (by omega)).trans (hcl c h1024).2.2.2))
  refine And.intro ⟨r8, (zRb rfl)⟩ ⟨fun h10 => ?_, fun h10 => ?_⟩
  · refine And.intro (Or.inl rfl) ?_
    refine hQ _ ?_
    · first
      | exact Or.inl (And.intro rfl (And.intro hc (And.intro (by omega) (And.intro (by omega) (by omega)))))
      | exact Or.inr (And.intro rfl (fun q => by
          have q1 := q.2.1
          have q2 := q.2.2.1
          have q3 := q.2.2.2
          omega))
  · refine And.intro (zA_98 hS) (zrdR (v := some 82) (zR_98_0 hR) ?_)
    refine And.intro (zA_82 hS) (zrdR (v := some 86) (zR_82_8 hR) ?_)
    refine And.intro (zP_86 hS (by omega) (by omega)) (fun v21 e21 r21 => ?_)
    have f21 : v21 = bho s c := (e21.trans ((congrArg (I 86) (by omega)).trans (hcl c h1024).2.2.1))
    refine And.intro ⟨r21, (by omega)⟩ ⟨fun h23 => ?_, fun h23 => ?_⟩
    · refine And.intro (Or.inl rfl) ?_
      refine hQ _ ?_
      · first
        | exact Or.inl (And.intro rfl (And.intro hc (And.intro (by omega) (And.intro (by omega) (by omega)))))
        | exact Or.inr (And.intro rfl (fun q => by
            have q1 := q.2.1
            have q2 := q.2.2.1
            have q3 := q.2.2.2
            omega))
    · refine And.intro (zA_98 hS) (zrdR (v := some 101) (zR_98_3 hR) ?_)
      refine And.intro (Or.inr (zP_101 hS (by omega) (by omega))) (fun v31 e31 r31 => ?_)
      have f31 : v31 = tr c := (e31.trans ((congrArg (I 101) (by omega)).trans (htr c h1024)))
      refine And.intro r31 ⟨fun h32 => ?_, fun h32 => ?_⟩
      · refine And.intro (Or.inl rfl) ?_
        refine hQ _ ?_
        · first
          | exact Or.inl (And.intro rfl (And.intro hc (And.intro (by omega) (And.intro (by omega) (by omega)))))
          | exact Or.inr (And.intro rfl (fun q => by
              have q1 := q.2.1
              have q2 := q.2.2.1
              have q3 := q.2.2.2
              omega))
      · refine And.intro (Or.inr rfl) ?_
        refine hQ _ ?_
        · first
          | exact Or.inl (And.intro rfl (And.intro hc (And.intro (by omega) (And.intro (by omega) (by omega)))))
          | exact Or.inr (And.intro rfl (fun q => by
              have q1 := q.2.1
              have q2 := q.2.2.1
              have q3 := q.2.2.2
              omega)))
def T_A_padD : ZT := fun args I L R S Q => ∃ (b : Nat) (s : BdS) (n : Int) (d : Int) (tr : Nat → Int), args = [zvr 98, zvi n, zvi d] ∧ (zSh S) ∧ (zRs R) ∧ (zBA b s I L) ∧ (bGz s) ∧ (r32 n ∧ r32 d) ∧ (∀ p : Nat, p < bnp s → 0 ≤ bP s p 2 ∧ bP s p 2 < bK s) ∧ (∀ j : Nat, j < 1024 → I 101 j = tr j) ∧ ∀ (v : Int), (v = zlow (fun p => bOut s n tr (bP s p 2).toNat ∧ I 99 (bP s p 2).toNat = d) (bnp s)) → (-1 ≤ v ∧ v < bnp s) → Q (some (zvi (v))) I L R S
theorem sn_A_padD : ZSnd 3 6 11 T_A_padD := ZSnd.loops (zT6_11 2) (by
  rintro args I L R S Q hz ⟨b, s, n, d, tr, rfl, hS, hR, hBA, hGz, hr, hpd, htr, hQ⟩
  obtain ⟨⟨hb0, hbw, hbh, hbd, hbs⟩, hnb, hcl, hPT, hNT, hwy, hco, hnd⟩ := id hBA
  obtain ⟨hP1, hP2, hP3, hP4⟩ := id hPT
  obtain ⟨hN1, hN2, hN3, hN4⟩ := id hNT
  obtain ⟨⟨⟨gW1, gW2⟩, ⟨gH1, gH2⟩, ⟨gD1, gD2⟩, gB9⟩, ⟨gnp, gnn⟩, gco⟩ := id hGz
  have hKe : bK s = bW s * bH s * bD s := rfl
  refine ⟨[2], fun nM tM lsM stM I1 L1 R1 S1 => match tM with
      | 2 => ∃ (p : Nat), nM = ((41 - p), 0, 0) ∧ lsM = [some (zvr (98)), some (zvi (n)), some (zvi (d)), some (zvi (p))] ∧ stM = [] ∧ I1 = I ∧ L1 = L ∧ R1 = R ∧ S1 = S ∧ (p ≤ bnp s) ∧ (∀ q : Nat, q < p → ¬ (bOut s n tr (bP s q 2).toNat ∧ I 99 (bP s q 2).toNat = d))
      | _ => False, rfl, ?_, ⟨?_, True.intro⟩⟩
  · refine ⟨((41 - (0 : Nat)), 0, 0), [some (zvr (98)), some (zvi (n)), some (zvi (d)), some (zvi ((0 : Nat)))], ⟨rfl, rfl, rfl, rfl, rfl⟩, 0, rfl, rfl, rfl, rfl, rfl, rfl, rfl, (by omega), (fun q h => absurd h (Nat.not_lt_zero q))⟩
  · rintro nM lsM stM I1 L1 R1 S1 hz1 ⟨p, rfl, rfl, rfl, rfl, rfl, rfl, rfl, hp, hno⟩
    refine And.intro (zA_98 hS) (zrdR (v := some 82) (zR_98_0 hR) ?_)
    refine And.intro (zA_82 hS) (zrdR (v := some 88) (zR_82_10 hR) ?_)
    refine And.intro (zA_88 hS) (zrd (v := (bnp s)) hP2 ?_)
    refine And.intro ⟨(by omega), (by omega)⟩ ⟨fun h13 => ?_, fun h13 => ?_⟩
    · refine hQ _ ?_ (by omega)
      · first
        | exact (zlow_no (P := fun p => bOut s n tr (bP s p 2).toNat ∧ I1 99 (bP s p 2).toNat = d) (fun q hq => hno q (by omega))).symm
        | (refine (zlow_at (P := fun p => bOut s n tr (bP s p 2).toNat ∧ I1 99 (bP s p 2).toNat = d) ⟨?_, ?_⟩ hno (by omega)).symm
           · rw [show (bP s p 2).toNat = v6_22o.toNat by omega]
             exact (p26hv.resolve_right (fun w => by have := w.1; omega)).2
           · have e2 := e44.trans (congrArg (I1 99) (show v6_41o.toNat = (bP s p 2).toNat by omega))
             omega)
    · refine And.intro (zA_98 hS) (zrdR (v := some 82) (zR_98_0 hR) ?_)
      refine And.intro (zA_82 hS) (Exists.intro _ (And.intro (zinl_ok (zT0_18 1)) (And.intro rfl ?_)))
      refine And.intro (zA_82 hS) (zrdR (v := some 88) (zR_82_10 hR) ?_)
      refine And.intro (zA_88 hS) ⟨_, sn_A_at.up (by decide), ?_⟩
      refine ⟨_, _, _, _, p, 2, (p : Int), (2 : Int), rfl, hS, hR, (zRw_88 hR hS), (by first | exact (zRT_fr hPT (fun c j h => rfl)) | (clear hQ; grind [xu])), (by omega), (by omega), ?_⟩
      intro v6_22o p6_22hv p6_22bhr
      have g6_22 : 0 ≤ bP s p 2 ∧ bP s p 2 < bK s := (hpd p (by omega))
      refine And.intro (zA_98 hS) ⟨_, sn_A_out.up (by decide), ?_⟩
      refine ⟨b, s, (v6_22o : Int), (v6_22o).toNat, (n : Int), tr, rfl, hS, hR, (by first | exact (zBA_fr hBA (fun c j h => rfl) (fun c j h => rfl)) | (clear hQ; grind [xu])), (by first | exact hGz | (clear hQ; grind [xu])), (by omega), (by omega), (by omega), (by first | exact htr | exact (fun j h1 => rfl.trans (htr j h1)) | (clear hQ; grind [xu])), ?_⟩
      intro v26o p26hv
      refine And.intro (by omega) ⟨fun h29 => ?_, fun h29 => ?_⟩
      · refine ⟨((41 - (p + 1)), 0, 0), zlt6 (by omega), [some (zvr (98)), some (zvi (n)), some (zvi (d)), some (zvi ((p + 1)))], ⟨rfl, rfl, rfl, rfl, rfl⟩, (p + 1), rfl, rfl, rfl, rfl, rfl, rfl, rfl, (by omega), ?_⟩
        · intro q hq
          by_cases e : q = p
          · subst e
            intro w
            first
            | (rcases p26hv with w9 | w9
               · omega
               · rw [show (bP s q 2).toNat = v6_22o.toNat by omega] at w
                 exact w9.2 w.1)
            | (have e2 := e44.trans (congrArg (I1 99) (show v6_41o.toNat = (bP s q 2).toNat by omega))
               have w2 := w.2
               omega)
          · exact hno q (by omega)
      · refine And.intro (zA_98 hS) (zrdR (v := some 99) (zR_98_1 hR) ?_)
        refine And.intro (zA_98 hS) (zrdR (v := some 82) (zR_98_0 hR) ?_)
        refine And.intro (zA_82 hS) (Exists.intro _ (And.intro (zinl_ok (zT0_18 1)) (And.intro rfl ?_)))
        refine And.intro (zA_82 hS) (zrdR (v := some 88) (zR_82_10 hR) ?_)
        refine And.intro (zA_88 hS) ⟨_, sn_A_at.up (by decide), ?_⟩
        refine ⟨_, _, _, _, p, 2, (p : Int), (2 : Int), rfl, hS, hR, (zRw_88 hR hS), (by first | exact (zRT_fr hPT (fun c j h => rfl)) | (clear hQ; grind [xu])), (by omega), (by omega), ?_⟩
        intro v6_41o p6_41hv p6_41bhr
        have g6_41 : 0 ≤ bP s p 2 ∧ bP s p 2 < bK s := (hpd p (by omega))
        refine And.intro (zP_99 hS (by omega) (by omega)) (fun v44 e44 r44 => ?_)
        refine And.intro ⟨r44, (by omega)⟩ ⟨fun h46 => ?_, fun h46 => ?_⟩
        · refine ⟨((41 - (p + 1)), 0, 0), zlt6 (by omega), [some (zvr (98)), some (zvi (n)), some (zvi (d)), some (zvi ((p + 1)))], ⟨rfl, rfl, rfl, rfl, rfl⟩, (p + 1), rfl, rfl, rfl, rfl, rfl, rfl, rfl, (by omega), ?_⟩
          · intro q hq
            by_cases e : q = p
            · subst e
              intro w
              first
              | (rcases p26hv with w9 | w9
                 · omega
                 · rw [show (bP s q 2).toNat = v6_22o.toNat by omega] at w
                   exact w9.2 w.1)
              | (have e2 := e44.trans (congrArg (I1 99) (show v6_41o.toNat = (bP s q 2).toNat by omega))
                 have w2 := w.2
                 omega)
            · exact hno q (by omega)
        · refine hQ _ ?_ (by omega)
          · first
            | exact (zlow_no (P := fun p => bOut s n tr (bP s p 2).toNat ∧ I1 99 (bP s p 2).toNat = d) (fun q hq => hno q (by omega))).symm
            | (refine (zlow_at (P := fun p => bOut s n tr (bP s p 2).toNat ∧ I1 99 (bP s p 2).toNat = d) ⟨?_, ?_⟩ hno (by omega)).symm
               · rw [show (bP s p 2).toNat = v6_22o.toNat by omega]
                 exact (p26hv.resolve_right (fun w => by have := w.1; omega)).2
               · have e2 := e44.trans (congrArg (I1 99) (show v6_41o.toNat = (bP s p 2).toNat by omega))
                 omega))
def T_A_srch : ZT := fun args I L R S Q => ∃ (b : Nat) (s : BdS) (n : Nat) (x : Int) (rr : Int) (hb_ : Nat) (tr : Nat → Int), args = [zvr 98, zvi x, zvi rr] ∧ (zSh S) ∧ (zRs R) ∧ (zBA b s I L) ∧ (bGz s) ∧ (x = n ∧ n < bnn s) ∧ (rr = 0 ∨ rr = 1) ∧ ((∀ c, c < bK s → bhi s c ≤ hb_) ∧ hb_ ≤ 1000000) ∧ (bwl s n ≤ 1024) ∧ (∀ k : Nat, k < bwl s n → bwy s n k < bK s ∧ bwy s n k < 1024) ∧ (∀ p : Nat, p < bnp s → 0 ≤ bP s p 2 ∧ bP s p 2 < bK s) ∧ (∀ j : Nat, j < 1024 → I 101 j = tr j) ∧ ∀ (v : Int) (I' : ZI) (L' : ZI), (v = bPk s n rr tr) → (-1 ≤ v ∧ v < bnp s) → (∀ d : Nat, d < bK s → I' 100 d = bTl s n rr d) → (∀ d : Nat, d < bK s → I' 99 d = -1 ∨ (0 ≤ bDn s n rr d ∧ bDn s n rr d ≤ I' 99 d ∧ I' 99 d ≤ (hb_ + 352 : Int) * 1025)) → (∀ d : Nat, 0 ≤ bDn s n rr d → bNst s n rr tr d → I' 99 d = bDn s n rr d) → (∀ c j : Nat, ¬ c = 99 → ¬ c = 100 → ¬ (c = 98 ∧ j = 5) → I' c j = I c j) → (∀ c j : Nat, ¬ c = 102 → L' c j = L c j) → Q (some (zvi (v))) I' L' R S
theorem sn_A_srch : ZSnd 4 6 14 T_A_srch := ZSnd.loops (zT6_14 3) (by
  rintro args I L R S Q hz ⟨b, s, n, x, rr, hb_, tr, rfl, hS, hR, hBA, hGz, hxn, hrr, hbh9, hwl, hwk, hpd, htr, hQ⟩
  obtain ⟨⟨hb0, hbw, hbh, hbd, hbs⟩, hnb, hcl, hPT, hNT, hwy, hco, hnd⟩ := id hBA
  obtain ⟨hP1, hP2, hP3, hP4⟩ := id hPT
  obtain ⟨hN1, hN2, hN3, hN4⟩ := id hNT
  obtain ⟨⟨⟨gW1, gW2⟩, ⟨gH1, gH2⟩, ⟨gD1, gD2⟩, gB9⟩, ⟨gnp, gnn⟩, gco⟩ := id hGz
  have hKe : bK s = bW s * bH s * bD s := rfl
  have m1 := zmb (a := (bW s : Int)) (b := (bH s : Int)) (A := 16) (B := 16) (by omega) (by omega) (by omega) (by omega)
  have m2 := zmb (a := (bW s : Int) * bH s) (b := (bD s : Int)) (A := 256) (B := 4) (by omega) (by omega) (by omega) (by omega)
  have hUU : (hb_ + 352 : Int) * 1025 ≤ 2147483647 := by have := hbh9.2; omega
  have hDU : ∀ d, bDi s n rr (bTr s n) d ≤ (hb_ + 352 : Int) * 1024 := bDn_le hGz hbh9.1 n rr (bTr s n)
  refine ⟨[32, 70, 110], fun nM tM lsM stM I1 L1 R1 S1 => match tM with
      | 32 => ∃ (k : Nat), nM = (3, (1025 - k), 0) ∧ lsM = [some (zvr (98)), some (zvi (n)), some (zvi (rr)), some (zvi (bK s)), some (zvi (k)), none, none, none, none, none] ∧ stM = [] ∧ L1 = L ∧ R1 = R ∧ S1 = S ∧ (k ≤ bK s) ∧ (I1 98 5 = 0) ∧ (∀ d : Nat, d < k → I1 99 d = -1) ∧ (∀ d : Nat, d < k → I1 100 d = bTl s n rr d) ∧ (∀ c j : Nat, ¬ c = 99 → ¬ c = 100 → ¬ (c = 98 ∧ j = 5) → I1 c j = I c j)
      | 70 => ∃ (k : Nat), nM = (2, (1025 - k), 0) ∧ lsM = [some (zvr (98)), some (zvi (n)), some (zvi (rr)), some (zvi (bK s)), some (zvi (k)), none, none, none, none, none] ∧ stM = [] ∧ R1 = R ∧ S1 = S ∧ (k ≤ bwl s n) ∧ (0 ≤ I1 98 5 ∧ I1 98 5 ≤ k) ∧ (bS0 s (bTk s n k) (I1 99) (L1 102) (I1 98 5).toNat) ∧ (hpO (L1 102) (I1 98 5).toNat) ∧ (hpI (L1 102) (I1 98 5).toNat) ∧ (∀ d : Nat, d < bK s → I1 100 d = bTl s n rr d) ∧ (∀ c j : Nat, ¬ c = 99 → ¬ c = 100 → ¬ (c = 98 ∧ j = 5) → I1 c j = I c j) ∧ (∀ c j : Nat, ¬ c = 102 → L1 c j = L c j)
      | 110 => ∃ (m : Nat) (B : Int) (sp : Nat → Prop) (lv : Int), nM = (1, (7169 - m), 0) ∧ lsM = [some (zvr (98)), some (zvi (n)), some (zvi (rr)), some (zvi (bK s)), some (zvi (B)), some (zvi (m)), none, none, none, none] ∧ stM = [] ∧ R1 = R ∧ S1 = S ∧ (m ≤ 7168) ∧ (-1 ≤ B ∧ B ≤ 2147483647) ∧ (0 ≤ I1 98 5 ∧ m + I1 98 5 ≤ 1024 + 6 * zct sp (bK s)) ∧ (bSx s n rr (bTr s n) ((hb_ + 352 : Int) * 1025) (I1 99) (L1 102) (I1 98 5).toNat sp lv 0 6) ∧ (bBs s n rr tr sp B) ∧ (hpO (L1 102) (I1 98 5).toNat) ∧ (hpI (L1 102) (I1 98 5).toNat) ∧ (∀ d : Nat, d < bK s → I1 100 d = bTl s n rr d) ∧ (∀ c j : Nat, ¬ c = 99 → ¬ c = 100 → ¬ (c = 98 ∧ j = 5) → I1 c j = I c j) ∧ (∀ c j : Nat, ¬ c = 102 → L1 c j = L c j)
      | _ => False, rfl, ?_, ⟨?_, ?_, ?_, True.intro⟩⟩
  · refine And.intro (zA_98 hS) (zrdR (v := some 82) (zR_98_0 hR) ?_)
    refine And.intro (zA_82 hS) (zrd (v := (bW s)) hbw ?_)
    refine And.intro (zA_98 hS) (zrdR (v := some 82) (zR_98_0 hR) ?_)
    refine And.intro (zA_82 hS) (zrd (v := (bH s)) hbh ?_)
    refine And.intro (zA_98 hS) (zrdR (v := some 82) (zR_98_0 hR) ?_)
    refine And.intro (zA_82 hS) (zrd (v := (bD s)) hbd ?_)
    refine And.intro (zA_98 hS) ⟨_, (zWi (zRb rfl)), ?_⟩
    refine ⟨(3, (1025 - (0 : Nat)), 0), [some (zvr (98)), some (zvi (n)), some (zvi (rr)), some (zvi (bK s)), some (zvi ((0 : Nat))), none, none, none, none, none], ⟨rfl, (congrArg (fun z => some (zvi z)) (by omega)), rfl, (congrArg (fun z => some (zvi z)) (by rw [hKe, Int.natCast_mul, Int.natCast_mul])), rfl, rfl⟩, 0, rfl, rfl, rfl, rfl, rfl, rfl, (by omega), rfl, (fun d h => absurd h (Nat.not_lt_zero d)), (fun d h => absurd h (Nat.not_lt_zero d)), (fun c j h0 h1 h2 => (zxcj h2 rfl))⟩
  · rintro nM lsM stM I1 L1 R1 S1 hz1 ⟨k, rfl, rfl, rfl, rfl, rfl, rfl, hk, hz5, hd1, ht1, fr⟩
    refine And.intro ⟨(by omega), (by omega)⟩ ⟨fun h35 => ?_, fun h35 => ?_⟩
    · refine ⟨(2, (1025 - (0 : Nat)), 0), zlt6 (by omega), [some (zvr (98)), some (zvi (n)), some (zvi (rr)), some (zvi (bK s)), some (zvi ((0 : Nat))), none, none, none, none, none], ⟨rfl, rfl, rfl, rfl, rfl, rfl⟩, 0, rfl, rfl, rfl, rfl, rfl, (by omega), (by omega), (by rw [hz5]; exact bS0_0 (bTk_0 s n) (fun d hd => hd1 d (by omega))), (by rw [hz5]; intro j h1 h2; exact absurd h2 (Nat.not_lt_zero j)), (by rw [hz5]; intro i j h1; exact absurd h1 (Nat.not_lt_zero i)), (fun d hd => ht1 d (by omega)), (fun c j h0 h1 h2 => ((fr c j (by omega) (by omega) (by omega)).trans rfl)), (fun c j h0 => rfl)⟩
    · refine And.intro (zA_98 hS) (zrdR (v := some 99) (zR_98_1 hR) ?_)
      refine And.intro ⟨(zx0 rfl), (zP_99 hS (by omega) (by omega))⟩ ⟨_, (zWi (zRb rfl)), ?_⟩
      refine And.intro (zA_98 hS) (zrdR (v := some 100) (zR_98_2 hR) ?_)
      refine And.intro (zA_98 hS) ⟨_, sn_A_toll.up (by decide), ?_⟩
      refine ⟨b, s, (k : Int), k, (n : Int), (rr : Int), hb_, rfl, hS, hR, (by first | exact (zBA_fr hBA (fun c j h => (zxcj (by omega) ((fr c j (by omega) (by omega) (by omega)).trans rfl))) (fun c j h => rfl)) | (clear hQ; grind [xu])), (by first | exact hGz | (clear hQ; grind [xu])), (by omega), (by omega), (by omega), (by first | exact hrr | (clear hQ; grind [xu])), ⟨hbh9.1 k (by omega), hbh9.2⟩, ?_⟩
      intro v57o p57hv p57bhv2
      refine And.intro ⟨(zx0 rfl), (zP_100 hS (by omega) (by omega))⟩ ⟨_, (zWi (by omega)), ?_⟩
      refine ⟨(3, (1025 - (k + 1)), 0), zlt6 (by omega), [some (zvr (98)), some (zvi (n)), some (zvi (rr)), some (zvi (bK s)), some (zvi ((k + 1))), none, none, none, none, none], ⟨rfl, rfl, rfl, rfl, rfl, rfl⟩, (k + 1), rfl, rfl, rfl, rfl, rfl, rfl, (by omega), hz5, ?_, ?_, (fun c j h0 h1 h2 => (zxu h1 (zxu h0 ((fr c j (by omega) (by omega) (by omega)).trans rfl))))⟩
      · intro d hd
        refine zxu (by decide) ?_
        by_cases e : d = k
        · subst e
          exact zxe
        · exact zxs (by omega) (hd1 d (by omega))
      · intro d hd
        by_cases e : d = k
        · subst e
          exact Eq.trans zxe p57hv
        · exact zxs (by omega) (zxu (by decide) (ht1 d (by omega)))
  · rintro nM lsM stM I1 L1 R1 S1 hz1 ⟨k, rfl, rfl, rfl, rfl, rfl, hk, hz5, hx1, hO1, hI1, ht1, fr, frL⟩
    refine And.intro (zA_98 hS) (zrdR (v := some 82) (zR_98_0 hR) ?_)
    refine And.intro (zA_82 hS) (Exists.intro _ (And.intro (zinl_ok (zT0_27 2)) (And.intro rfl ?_)))
    refine And.intro (by omega) ⟨(fun h1_77 => False.elim (by omega)), fun h1_77 => ?_⟩
    refine And.intro (zA_82 hS) (zrdR (v := some 90) (zR_82_11 hR) ?_)
    refine And.intro (zA_90 hS) (zrd (v := (bnn s)) ((fr 90 2 (by omega) (by omega) (by omega)).trans hN2) ?_)
    refine And.intro ⟨(by omega), (by omega)⟩ ⟨(fun h12_77 => False.elim (by omega)), fun h12_77 => ?_⟩
    refine And.intro (zA_82 hS) (zrdR (v := some 93) (zR_82_13 hR) ?_)
    refine And.intro (zP_93 hS (by omega) (by omega)) (fun v20_77 e20_77 r20_77 => ?_)
    have f20_77 : v20_77 = bwl s n := (e20_77.trans ((congrArg (I1 93) (by omega)).trans ((fr 93 n (by omega) (by omega) (by omega)).trans (hwy n (by omega)).1)))
    refine And.intro ⟨(by omega), r20_77⟩ ⟨fun h80 => ?_, fun h80 => ?_⟩
    · refine ⟨(1, (7169 - (0 : Nat)), 0), zlt6 (by omega), [some (zvr (98)), some (zvi (n)), some (zvi (rr)), some (zvi (bK s)), some (zvi (((-1) : Int))), some (zvi ((0 : Nat))), none, none, none, none], ⟨rfl, rfl, rfl, rfl, (congrArg (fun z => some (zvi z)) (by omega)), rfl, rfl⟩, 0, (-1), (fun _ => False), (-1), rfl, rfl, rfl, rfl, rfl, (by omega), (by omega), (by omega), (by obtain rfl : k = bwl s n := (by omega); exact bSx_0 gB9 (by omega) hx1.1 hx1.2), (Or.inl ⟨rfl, fun d q => q.elim⟩), hO1, hI1, (by first | exact ht1 | exact (fun d h1 => rfl.trans (ht1 d h1)) | (clear hQ; grind [xu])), (fun c j h0 h1 h2 => ((fr c j (by omega) (by omega) (by omega)).trans rfl)), (fun c j h0 => ((frL c j (by omega)).trans rfl))⟩
    · refine And.intro (zA_98 hS) (zrdR (v := some 82) (zR_98_0 hR) ?_)
      refine And.intro (zA_82 hS) (Exists.intro _ (And.intro (zinl_ok (zT0_26 2)) (And.intro rfl ?_)))
      refine And.intro (by omega) ⟨(fun h1_91 => False.elim (by omega)), fun h1_91 => ?_⟩
      refine And.intro (zA_82 hS) (Exists.intro _ (And.intro (zinl_ok (zT0_27 1)) (And.intro rfl ?_)))
      refine And.intro (by omega) ⟨(fun h1_91_7 => False.elim (by omega)), fun h1_91_7 => ?_⟩
      refine And.intro (zA_82 hS) (zrdR (v := some 90) (zR_82_11 hR) ?_)
      refine And.intro (zA_90 hS) (zrd (v := (bnn s)) ((fr 90 2 (by omega) (by omega) (by omega)).trans hN2) ?_)
      refine And.intro ⟨(by omega), (by omega)⟩ ⟨(fun h12_91_7 => False.elim (by omega)), fun h12_91_7 => ?_⟩
      refine And.intro (zA_82 hS) (zrdR (v := some 93) (zR_82_13 hR) ?_)
      refine And.intro (zP_93 hS (by omega) (by omega)) (fun v20_91_7 e20_91_7 r20_91_7 => ?_)
      have f20_91_7 : v20_91_7 = bwl s n := (e20_91_7.trans ((congrArg (I1 93) (by omega)).trans ((fr 93 n (by omega) (by omega) (by omega)).trans (hwy n (by omega)).1)))
      refine And.intro ⟨(by omega), r20_91_7⟩ ⟨(fun h10_91 => False.elim (by omega)), fun h10_91 => ?_⟩
      refine And.intro (zA_82 hS) (zrdR (v := some 92) (zR_82_12 hR) ?_)
      refine And.intro (zP_92 hS (by omega) (by omega)) (fun v24_91 e24_91 r24_91 => ?_)
      have f24_91 : v24_91 = bwy s n k := (e24_91.trans ((congrArg (I1 92) (by omega)).trans ((fr 92 (1024 * n + k) (by omega) (by omega) (by omega)).trans ((hwy n (by omega)).2 k (by omega)))))
      have f24_91b : 0 ≤ v24_91 ∧ v24_91 ≤ 1023 := (by have := hwk k (by omega); omega)
      refine And.intro (zA_98 hS) ⟨_, sn_A_reach.up (by decide), ?_⟩
      refine ⟨(v24_91 : Int), (bwy s n k), (0 : Int), (I1 98 5).toNat, (I1 99), (L1 102), rfl, hS, hR, (by have := hwk k (by omega); omega), (by omega), (Int.toNat_of_nonneg hz5.1).symm, (by omega), (fun _ _ => rfl), (fun _ _ => rfl), hO1, ?_⟩
      intro I95o L95o p95hz2 p95bhdd2 p95bbhO2 p95bbbhA2 p95bbbbhI2 p95bbbbbfr p95bbbbbbfrL
      refine ⟨(2, (1025 - (k + 1)), 0), zlt6 (by omega), [some (zvr (98)), some (zvi (n)), some (zvi (rr)), some (zvi (bK s)), some (zvi ((k + 1))), none, none, none, none, none], ⟨rfl, rfl, rfl, rfl, rfl, rfl⟩, (k + 1), rfl, rfl, rfl, rfl, rfl, (by omega), (by have w := (bS0_step gB9 hx1 hI1 (hwk k (by omega)).1 (fun d => bTk_s s n k d) rfl p95hz2 p95bhdd2 p95bbhO2 p95bbbhA2 p95bbbbhI2).2.2.2; omega), (bS0_step gB9 hx1 hI1 (hwk k (by omega)).1 (fun d => bTk_s s n k d) rfl p95hz2 p95bhdd2 p95bbhO2 p95bbbhA2 p95bbbbhI2).1, (bS0_step gB9 hx1 hI1 (hwk k (by omega)).1 (fun d => bTk_s s n k d) rfl p95hz2 p95bhdd2 p95bbhO2 p95bbbhA2 p95bbbbhI2).2.1, (bS0_step gB9 hx1 hI1 (hwk k (by omega)).1 (fun d => bTk_s s n k d) rfl p95hz2 p95bhdd2 p95bbhO2 p95bbbhA2 p95bbbbhI2).2.2.1, (by first | exact ht1 | exact (fun d h1 => ((p95bbbbbfr 100 _ (by omega) (by omega)).trans rfl).trans (ht1 d h1)) | (clear hQ; grind [xu])), (fun c j h0 h1 h2 => ((p95bbbbbfr c j (by omega) (by omega)).trans ((fr c j (by omega) (by omega) (by omega)).trans rfl))), (fun c j h0 => ((p95bbbbbbfrL c j (by omega)).trans ((frL c j (by omega)).trans rfl)))⟩
  · rintro nM lsM stM I1 L1 R1 S1 hz1 ⟨m, B, sp, lv, rfl, rfl, rfl, rfl, rfl, hm, hB9, hz5, hx1, hB1, hO1, hI1, ht1, fr, frL⟩
    have hct := zct_le sp (bK s)
    refine And.intro ⟨(by omega), (zRb rfl)⟩ ⟨fun h115 => ?_, fun h115 => ?_⟩
    · refine And.intro ⟨(by omega), (zRb rfl)⟩ ⟨fun h217 => ?_, fun h217 => ?_⟩
      · refine And.intro (zA_98 hS) ⟨_, sn_A_padD.up (by decide), ?_⟩
        refine ⟨b, s, (n : Int), (B : Int), tr, rfl, hS, hR, (by first | exact (zBA_fr hBA (fun c j h => ((fr c j (by omega) (by omega) (by omega)).trans rfl)) (fun c j h => ((frL c j (by omega)).trans rfl))) | (clear hQ; grind [xu])), (by first | exact hGz | (clear hQ; grind [xu])), (by omega), (by first | exact hpd | (clear hQ; grind [xu])), (by first | exact htr | exact (fun j h1 => ((fr 101 _ (by omega) (by omega) (by omega)).trans rfl).trans (htr j h1)) | (clear hQ; grind [xu])), ?_⟩
        intro v228o p228hv p228bhv2
        refine hQ _ _ _ ?_ (by omega) (by first | exact ht1 | exact (fun d h1 => rfl.trans (ht1 d h1)) | (clear hQ; grind [xu])) ?_ ?_ (fun c j h0 h1 h2 => ((fr c j (by omega) (by omega) (by omega)).trans rfl)) (fun c j h0 => ((frL c j (by omega)).trans rfl))
        · first
          | exact ((bSx_end gB9 hx1 hB1 (Or.inl (by omega))).2.2.1 (by omega)).symm
          | exact p228hv.trans ((bSx_end gB9 hx1 hB1 (Or.inl (by omega))).2.2.2 (by omega)).symm
          | (have e9 : I126o 99 = I1 99 := (funext (fun j => p126bbbbbbbfr 99 j (by omega)))
             rw [e9] at p228hv
             exact p228hv.trans ((bSx_end gB9 hx1 hB1 (Or.inr ⟨by omega, hO1, by rw [← p126hv]; omega⟩)).2.2.2 (by omega)).symm)
        · first
          | exact (bSx_end gB9 hx1 hB1 (Or.inl (by omega))).1
          | (have e9 : I126o 99 = I1 99 := (funext (fun j => p126bbbbbbbfr 99 j (by omega)))
             rw [e9]
             exact (bSx_end gB9 hx1 hB1 (Or.inr ⟨by omega, hO1, by rw [← p126hv]; omega⟩)).1)
        · first
          | exact (bSx_end gB9 hx1 hB1 (Or.inl (by omega))).2.1
          | (have e9 : I126o 99 = I1 99 := (funext (fun j => p126bbbbbbbfr 99 j (by omega)))
             rw [e9]
             exact (bSx_end gB9 hx1 hB1 (Or.inr ⟨by omega, hO1, by rw [← p126hv]; omega⟩)).2.1)
      · refine hQ _ _ _ ?_ (by omega) (by first | exact ht1 | exact (fun d h1 => rfl.trans (ht1 d h1)) | (clear hQ; grind [xu])) ?_ ?_ (fun c j h0 h1 h2 => ((fr c j (by omega) (by omega) (by omega)).trans rfl)) (fun c j h0 => ((frL c j (by omega)).trans rfl))
        · first
          | exact ((bSx_end gB9 hx1 hB1 (Or.inl (by omega))).2.2.1 (by omega)).symm
          | exact p228hv.trans ((bSx_end gB9 hx1 hB1 (Or.inl (by omega))).2.2.2 (by omega)).symm
          | (have e9 : I126o 99 = I1 99 := (funext (fun j => p126bbbbbbbfr 99 j (by omega)))
             rw [e9] at p228hv
             exact p228hv.trans ((bSx_end gB9 hx1 hB1 (Or.inr ⟨by omega, hO1, by rw [← p126hv]; omega⟩)).2.2.2 (by omega)).symm)
        · first
          | exact (bSx_end gB9 hx1 hB1 (Or.inl (by omega))).1
          | (have e9 : I126o 99 = I1 99 := (funext (fun j => p126bbbbbbbfr 99 j (by omega)))
             rw [e9]
             exact (bSx_end gB9 hx1 hB1 (Or.inr ⟨by omega, hO1, by rw [← p126hv]; omega⟩)).1)
        · first
          | exact (bSx_end gB9 hx1 hB1 (Or.inl (by omega))).2.1
          | (have e9 : I126o 99 = I1 99 := (funext (fun j => p126bbbbbbbfr 99 j (by omega)))
             rw [e9]
             exact (bSx_end gB9 hx1 hB1 (Or.inr ⟨by omega, hO1, by rw [← p126hv]; omega⟩)).2.1)
    · refine And.intro (zA_98 hS) (fun v119 e119 r119 => ?_)
      refine And.intro r119 ⟨fun h122 => ?_, fun h122 => ?_⟩
      · refine And.intro ⟨(by omega), (zRb rfl)⟩ ⟨fun h217 => ?_, fun h217 => ?_⟩
        · refine And.intro (zA_98 hS) ⟨_, sn_A_padD.up (by decide), ?_⟩
          refine ⟨b, s, (n : Int), (B : Int), tr, rfl, hS, hR, (by first | exact (zBA_fr hBA (fun c j h => ((fr c j (by omega) (by omega) (by omega)).trans rfl)) (fun c j h => ((frL c j (by omega)).trans rfl))) | (clear hQ; grind [xu])), (by first | exact hGz | (clear hQ; grind [xu])), (by omega), (by first | exact hpd | (clear hQ; grind [xu])), (by first | exact htr | exact (fun j h1 => ((fr 101 _ (by omega) (by omega) (by omega)).trans rfl).trans (htr j h1)) | (clear hQ; grind [xu])), ?_⟩
          intro v228o p228hv p228bhv2
          refine hQ _ _ _ ?_ (by omega) (by first | exact ht1 | exact (fun d h1 => rfl.trans (ht1 d h1)) | (clear hQ; grind [xu])) ?_ ?_ (fun c j h0 h1 h2 => ((fr c j (by omega) (by omega) (by omega)).trans rfl)) (fun c j h0 => ((frL c j (by omega)).trans rfl))
          · first
            | exact ((bSx_end gB9 hx1 hB1 (Or.inl (by omega))).2.2.1 (by omega)).symm
            | exact p228hv.trans ((bSx_end gB9 hx1 hB1 (Or.inl (by omega))).2.2.2 (by omega)).symm
            | (have e9 : I126o 99 = I1 99 := (funext (fun j => p126bbbbbbbfr 99 j (by omega)))
               rw [e9] at p228hv
               exact p228hv.trans ((bSx_end gB9 hx1 hB1 (Or.inr ⟨by omega, hO1, by rw [← p126hv]; omega⟩)).2.2.2 (by omega)).symm)
          · first
            | exact (bSx_end gB9 hx1 hB1 (Or.inl (by omega))).1
            | (have e9 : I126o 99 = I1 99 := (funext (fun j => p126bbbbbbbfr 99 j (by omega)))
               rw [e9]
               exact (bSx_end gB9 hx1 hB1 (Or.inr ⟨by omega, hO1, by rw [← p126hv]; omega⟩)).1)
          · first
            | exact (bSx_end gB9 hx1 hB1 (Or.inl (by omega))).2.1
            | (have e9 : I126o 99 = I1 99 := (funext (fun j => p126bbbbbbbfr 99 j (by omega)))
               rw [e9]
               exact (bSx_end gB9 hx1 hB1 (Or.inr ⟨by omega, hO1, by rw [← p126hv]; omega⟩)).2.1)
        · refine hQ _ _ _ ?_ (by omega) (by first | exact ht1 | exact (fun d h1 => rfl.trans (ht1 d h1)) | (clear hQ; grind [xu])) ?_ ?_ (fun c j h0 h1 h2 => ((fr c j (by omega) (by omega) (by omega)).trans rfl)) (fun c j h0 => ((frL c j (by omega)).trans rfl))
          · first
            | exact ((bSx_end gB9 hx1 hB1 (Or.inl (by omega))).2.2.1 (by omega)).symm
            | exact p228hv.trans ((bSx_end gB9 hx1 hB1 (Or.inl (by omega))).2.2.2 (by omega)).symm
            | (have e9 : I126o 99 = I1 99 := (funext (fun j => p126bbbbbbbfr 99 j (by omega)))
               rw [e9] at p228hv
               exact p228hv.trans ((bSx_end gB9 hx1 hB1 (Or.inr ⟨by omega, hO1, by rw [← p126hv]; omega⟩)).2.2.2 (by omega)).symm)
          · first
            | exact (bSx_end gB9 hx1 hB1 (Or.inl (by omega))).1
            | (have e9 : I126o 99 = I1 99 := (funext (fun j => p126bbbbbbbfr 99 j (by omega)))
               rw [e9]
               exact (bSx_end gB9 hx1 hB1 (Or.inr ⟨by omega, hO1, by rw [← p126hv]; omega⟩)).1)
          · first
            | exact (bSx_end gB9 hx1 hB1 (Or.inl (by omega))).2.1
            | (have e9 : I126o 99 = I1 99 := (funext (fun j => p126bbbbbbbfr 99 j (by omega)))
               rw [e9]
               exact (bSx_end gB9 hx1 hB1 (Or.inr ⟨by omega, hO1, by rw [← p126hv]; omega⟩)).2.1)
      · refine And.intro (zA_98 hS) ⟨_, sn_A_least.up (by decide), ?_⟩
        refine ⟨(I1 98 5).toNat, (L1 102), rfl, hS, hR, (Int.toNat_of_nonneg hz5.1).symm, (by omega), (fun _ _ => rfl), hO1, ?_⟩
        intro v126o I126o L126o p126hv p126bhr p126bbhz2 p126bbbhO2 p126bbbbhD2 p126bbbbbhI2 p126bbbbbbhN2 p126bbbbbbbfr p126bbbbbbbbfrL
        have g126 : lv < v126o ∧ 0 ≤ v126o ∧ (v126o % 1024).toNat < bK s ∧ I1 99 (v126o % 1024).toNat ≠ -1 ∧ I1 99 (v126o % 1024).toNat ≤ v126o / 1024 ∧ v126o / 1024 ≤ ((hb_ + 352 : Int) * 1025) := (by rw [p126hv]; exact hx1.2.2.2.2.1 (L1 102 0) (Exists.intro 0 ⟨by omega, rfl⟩))
        have g126b : 0 ≤ v126o := g126.2.1
        refine ⟨_, _, ⟨(zW6i (by omega)), (zW6i (zRL rfl)), (by decide)⟩, (zdv (by omega) (fun q136 e136 => ?_))⟩
        refine ⟨_, (zWi (by omega)), ?_⟩
        refine ⟨_, _, ⟨(zW6i (by omega)), (zW6i (zRL rfl)), (by decide)⟩, (zdv (by omega) (fun q145 e145 => ?_))⟩
        have f145 : 0 ≤ q145 ∧ q145 + 1 ≤ bK s ∧ q145 ≤ 1023 := (by omega)
        refine ⟨_, (zWi (by omega)), ?_⟩
        refine And.intro ⟨(by omega), (zRb rfl)⟩ ⟨fun h152 => ?_, fun h152 => ?_⟩
        · refine And.intro (zA_98 hS) (zrdR (v := some 99) (zR_98_1 hR) ?_)
          refine And.intro (zP_99 hS (by omega) (by omega)) (fun v173 e173 r173 => ?_)
          have f173 : v173 = I1 99 (v126o % 1024).toNat := (e173.trans ((congrArg (I126o 99) (by omega)).trans (p126bbbbbbbfr 99 _ (by omega))))
          refine And.intro ⟨(by omega), r173⟩ ⟨fun h174 => ?_, fun h174 => ?_⟩
          · refine ⟨(1, (7169 - (m + 1)), 0), zlt6 (by omega), [some (zvr (98)), some (zvi (n)), some (zvi (rr)), some (zvi (bK s)), some (zvi (B)), some (zvi ((m + 1))), none, none, none, none], ⟨rfl, rfl, rfl, rfl, rfl, rfl, rfl⟩, (m + 1), B, (spU sp (I1 99) v126o), v126o, rfl, rfl, rfl, rfl, rfl, (by omega), (by omega), ?_, ?_, ?_, ?_, ?_, (by first | exact ht1 | exact (fun d h1 => ((p126bbbbbbbfr 100 _ (by omega)).trans rfl).trans (ht1 d h1)) | (clear hQ; grind [xu])), (fun c j h0 h1 h2 => ((p126bbbbbbbfr c j (by omega)).trans ((fr c j (by omega) (by omega) (by omega)).trans rfl))), (fun c j h0 => ((p126bbbbbbbbfrL c j (by omega)).trans ((frL c j (by omega)).trans rfl)))⟩
            · first
              | (rw [spU_f (by omega)]
                 omega)
              | (rw [spU_t rfl (by omega), zct_eq t174.2.1 t174.2.2.1]
                 omega)
            · first
              | (rw [spU_t rfl (by omega)]
                 exact bSx_c 0 p205bhx2)
              | (rw [spU_f (by omega), show (I126o 98 5).toNat = (I1 98 5).toNat - 1 by omega]
                 exact bSx_ext gB9 (bSx_ol gB9 hx1 (by omega) hO1 p126bbbbhD2 (p126bbbbbbhN2 hI1) p126hv (by omega)) (fun j _ => p126bbbbbbbfr 99 j (by omega)) (fun _ _ => rfl))
            · first
              | (rw [spU_f (by omega)]
                 exact hB1)
              | (rw [spU_t rfl (by omega)]
                 exact bBs_old hB1 (Or.inl (by omega)))
              | (rw [spU_t rfl (by omega)]
                 exact bBs_old hB1 (Or.inr (p187hv.resolve_left (fun w => by have := w.1; omega)).2))
              | (have e7 : bDn s n rr (v126o % 1024).toNat = bDi s n rr (bTr s n) (v126o % 1024).toNat := rfl
                 have e8 := t174.2.2.2.1
                 exact bBs_new hB1 (by omega) (p187hv.resolve_right (fun w => by have := w.1; omega)).2 (by omega) (by omega) (fun d q1 q2 => t174.2.2.2.2.2.2 d q1 (by
                   have e9 : bDn s n rr d = bDi s n rr (bTr s n) d := rfl
                   omega)) _)
            · first
              | exact p205bbhO2
              | (rw [show (I126o 98 5).toNat = (I1 98 5).toNat - 1 by omega]
                 exact p126bbbhO2)
            · first
              | exact p205bbbhI2
              | (rw [show (I126o 98 5).toNat = (I1 98 5).toNat - 1 by omega]
                 exact p126bbbbbhI2 hI1)
          · have t174 : bSx s n rr (bTr s n) ((hb_ + 352 : Int) * 1025) (I1 99) (L126o 102) ((I1 98 5).toNat - 1) (fun d => sp d ∨ d = (v126o % 1024).toNat) v126o (v126o % 1024).toNat 0 ∧ ¬ sp (v126o % 1024).toNat ∧ (v126o % 1024).toNat < bK s ∧ I1 99 (v126o % 1024).toNat = bDi s n rr (bTr s n) (v126o % 1024).toNat ∧ 0 ≤ I1 99 (v126o % 1024).toNat ∧ v126o = I1 99 (v126o % 1024).toNat * 1024 + (v126o % 1024).toNat ∧ ∀ d : Nat, 0 ≤ bDi s n rr (bTr s n) d → bDi s n rr (bTr s n) d < I1 99 (v126o % 1024).toNat → sp d := (bSx_nw gB9 hx1 (by omega) hO1 p126bbbbhD2 (p126bbbbbbhN2 hI1) p126hv (by omega))
            refine And.intro ⟨(by omega), (zRb rfl)⟩ ⟨(fun h180 => False.elim (by omega)), fun h180 => ?_⟩
            refine And.intro (zA_98 hS) ⟨_, sn_A_out.up (by decide), ?_⟩
            refine ⟨b, s, (q145 : Int), (v126o % 1024).toNat, (n : Int), tr, rfl, hS, hR, (by first | exact (zBA_fr hBA (fun c j h => ((p126bbbbbbbfr c j (by omega)).trans ((fr c j (by omega) (by omega) (by omega)).trans rfl))) (fun c j h => ((p126bbbbbbbbfrL c j (by omega)).trans ((frL c j (by omega)).trans rfl)))) | (clear hQ; grind [xu])), (by first | exact hGz | (clear hQ; grind [xu])), (by omega), (by omega), (by omega), (by first | exact htr | exact (fun j h1 => ((p126bbbbbbbfr 101 _ (by omega)).trans ((fr 101 _ (by omega) (by omega) (by omega)).trans rfl)).trans (htr j h1)) | (clear hQ; grind [xu])), ?_⟩
            intro v187o p187hv
            refine And.intro (by omega) ⟨fun h190 => ?_, fun h190 => ?_⟩
            · refine And.intro (zA_98 hS) ⟨_, sn_A_spr.up (by decide), ?_⟩
              refine ⟨b, s, (n : Int), rr, (bTr s n), ((hb_ + 352 : Int) * 1025), ((I1 98 5).toNat - 1), (fun d => sp d ∨ d = (v126o % 1024).toNat), v126o, (q145 : Int), (v126o % 1024).toNat, rfl, hS, hR, (by first | exact (zBA_fr hBA (fun c j h => ((p126bbbbbbbfr c j (by omega)).trans ((fr c j (by omega) (by omega) (by omega)).trans rfl))) (fun c j h => ((p126bbbbbbbbfrL c j (by omega)).trans ((frL c j (by omega)).trans rfl)))) | (clear hQ; grind [xu])), (by first | exact hGz | (clear hQ; grind [xu])), (by omega), (Or.inr rfl), (by rw [← t174.2.2.2.1]; exact t174.2.2.2.2.2.1), (by omega), (by have w := zct_eq t174.2.1 t174.2.2.1; have w2 := zct_le (fun d => sp d ∨ d = (v126o % 1024).toNat) (bK s); omega), (bSx_ext gB9 t174.1 (fun j _ => p126bbbbbbbfr 99 j (by omega)) (fun _ _ => rfl)), p126bbbhO2, (p126bbbbbhI2 hI1), (by first | exact ht1 | exact (fun d h1 => ((p126bbbbbbbfr 100 _ (by omega)).trans rfl).trans (ht1 d h1)) | (clear hQ; grind [xu])), ⟨fun d hd => by have w1 := hDU (v126o % 1024).toNat; have w2 := bTl_le hGz hd n rr (hbh9.1 d hd); omega, hUU⟩, ?_⟩
              intro I205o L205o p205hz2 p205bhx2 p205bbhO2 p205bbbhI2 p205bbbbfr p205bbbbbfrL
              refine ⟨(1, (7169 - (m + 1)), 0), zlt6 (by omega), [some (zvr (98)), some (zvi (n)), some (zvi (rr)), some (zvi (bK s)), some (zvi (B)), some (zvi ((m + 1))), none, none, none, none], ⟨rfl, rfl, rfl, rfl, rfl, rfl, rfl⟩, (m + 1), B, (spU sp (I1 99) v126o), v126o, rfl, rfl, rfl, rfl, rfl, (by omega), (by omega), ?_, ?_, ?_, ?_, ?_, (by first | exact ht1 | exact (fun d h1 => ((p205bbbbfr 100 _ (by omega) (by omega)).trans ((p126bbbbbbbfr 100 _ (by omega)).trans rfl)).trans (ht1 d h1)) | (clear hQ; grind [xu])), (fun c j h0 h1 h2 => ((p205bbbbfr c j (by omega) (by omega)).trans ((p126bbbbbbbfr c j (by omega)).trans ((fr c j (by omega) (by omega) (by omega)).trans rfl)))), (fun c j h0 => ((p205bbbbbfrL c j (by omega)).trans ((p126bbbbbbbbfrL c j (by omega)).trans ((frL c j (by omega)).trans rfl))))⟩
              · first
                | (rw [spU_f (by omega)]
                   omega)
                | (rw [spU_t rfl (by omega), zct_eq t174.2.1 t174.2.2.1]
                   omega)
              · first
                | (rw [spU_t rfl (by omega)]
                   exact bSx_c 0 p205bhx2)
                | (rw [spU_f (by omega), show (I126o 98 5).toNat = (I1 98 5).toNat - 1 by omega]
                   exact bSx_ext gB9 (bSx_ol gB9 hx1 (by omega) hO1 p126bbbbhD2 (p126bbbbbbhN2 hI1) p126hv (by omega)) (fun j _ => p126bbbbbbbfr 99 j (by omega)) (fun _ _ => rfl))
              · first
                | (rw [spU_f (by omega)]
                   exact hB1)
                | (rw [spU_t rfl (by omega)]
                   exact bBs_old hB1 (Or.inl (by omega)))
                | (rw [spU_t rfl (by omega)]
                   exact bBs_old hB1 (Or.inr (p187hv.resolve_left (fun w => by have := w.1; omega)).2))
                | (have e7 : bDn s n rr (v126o % 1024).toNat = bDi s n rr (bTr s n) (v126o % 1024).toNat := rfl
                   have e8 := t174.2.2.2.1
                   exact bBs_new hB1 (by omega) (p187hv.resolve_right (fun w => by have := w.1; omega)).2 (by omega) (by omega) (fun d q1 q2 => t174.2.2.2.2.2.2 d q1 (by
                     have e9 : bDn s n rr d = bDi s n rr (bTr s n) d := rfl
                     omega)) _)
              · first
                | exact p205bbhO2
                | (rw [show (I126o 98 5).toNat = (I1 98 5).toNat - 1 by omega]
                   exact p126bbbhO2)
              · first
                | exact p205bbbhI2
                | (rw [show (I126o 98 5).toNat = (I1 98 5).toNat - 1 by omega]
                   exact p126bbbbbhI2 hI1)
            · refine And.intro (zA_98 hS) ⟨_, sn_A_spr.up (by decide), ?_⟩
              refine ⟨b, s, (n : Int), rr, (bTr s n), ((hb_ + 352 : Int) * 1025), ((I1 98 5).toNat - 1), (fun d => sp d ∨ d = (v126o % 1024).toNat), v126o, (q145 : Int), (v126o % 1024).toNat, rfl, hS, hR, (by first | exact (zBA_fr hBA (fun c j h => ((p126bbbbbbbfr c j (by omega)).trans ((fr c j (by omega) (by omega) (by omega)).trans rfl))) (fun c j h => ((p126bbbbbbbbfrL c j (by omega)).trans ((frL c j (by omega)).trans rfl)))) | (clear hQ; grind [xu])), (by first | exact hGz | (clear hQ; grind [xu])), (by omega), (Or.inr rfl), (by rw [← t174.2.2.2.1]; exact t174.2.2.2.2.2.1), (by omega), (by have w := zct_eq t174.2.1 t174.2.2.1; have w2 := zct_le (fun d => sp d ∨ d = (v126o % 1024).toNat) (bK s); omega), (bSx_ext gB9 t174.1 (fun j _ => p126bbbbbbbfr 99 j (by omega)) (fun _ _ => rfl)), p126bbbhO2, (p126bbbbbhI2 hI1), (by first | exact ht1 | exact (fun d h1 => ((p126bbbbbbbfr 100 _ (by omega)).trans rfl).trans (ht1 d h1)) | (clear hQ; grind [xu])), ⟨fun d hd => by have w1 := hDU (v126o % 1024).toNat; have w2 := bTl_le hGz hd n rr (hbh9.1 d hd); omega, hUU⟩, ?_⟩
              intro I205o L205o p205hz2 p205bhx2 p205bbhO2 p205bbbhI2 p205bbbbfr p205bbbbbfrL
              refine ⟨(1, (7169 - (m + 1)), 0), zlt6 (by omega), [some (zvr (98)), some (zvi (n)), some (zvi (rr)), some (zvi (bK s)), some (zvi (q136)), some (zvi ((m + 1))), none, none, none, none], ⟨rfl, rfl, rfl, rfl, rfl, rfl, rfl⟩, (m + 1), q136, (spU sp (I1 99) v126o), v126o, rfl, rfl, rfl, rfl, rfl, (by omega), (by omega), ?_, ?_, ?_, ?_, ?_, (by first | exact ht1 | exact (fun d h1 => ((p205bbbbfr 100 _ (by omega) (by omega)).trans ((p126bbbbbbbfr 100 _ (by omega)).trans rfl)).trans (ht1 d h1)) | (clear hQ; grind [xu])), (fun c j h0 h1 h2 => ((p205bbbbfr c j (by omega) (by omega)).trans ((p126bbbbbbbfr c j (by omega)).trans ((fr c j (by omega) (by omega) (by omega)).trans rfl)))), (fun c j h0 => ((p205bbbbbfrL c j (by omega)).trans ((p126bbbbbbbbfrL c j (by omega)).trans ((frL c j (by omega)).trans rfl))))⟩
              · first
                | (rw [spU_f (by omega)]
                   omega)
                | (rw [spU_t rfl (by omega), zct_eq t174.2.1 t174.2.2.1]
                   omega)
              · first
                | (rw [spU_t rfl (by omega)]
                   exact bSx_c 0 p205bhx2)
                | (rw [spU_f (by omega), show (I126o 98 5).toNat = (I1 98 5).toNat - 1 by omega]
                   exact bSx_ext gB9 (bSx_ol gB9 hx1 (by omega) hO1 p126bbbbhD2 (p126bbbbbbhN2 hI1) p126hv (by omega)) (fun j _ => p126bbbbbbbfr 99 j (by omega)) (fun _ _ => rfl))
              · first
                | (rw [spU_f (by omega)]
                   exact hB1)
                | (rw [spU_t rfl (by omega)]
                   exact bBs_old hB1 (Or.inl (by omega)))
                | (rw [spU_t rfl (by omega)]
                   exact bBs_old hB1 (Or.inr (p187hv.resolve_left (fun w => by have := w.1; omega)).2))
                | (have e7 : bDn s n rr (v126o % 1024).toNat = bDi s n rr (bTr s n) (v126o % 1024).toNat := rfl
                   have e8 := t174.2.2.2.1
                   exact bBs_new hB1 (by omega) (p187hv.resolve_right (fun w => by have := w.1; omega)).2 (by omega) (by omega) (fun d q1 q2 => t174.2.2.2.2.2.2 d q1 (by
                     have e9 : bDn s n rr d = bDi s n rr (bTr s n) d := rfl
                     omega)) _)
              · first
                | exact p205bbhO2
                | (rw [show (I126o 98 5).toNat = (I1 98 5).toNat - 1 by omega]
                   exact p126bbbhO2)
              · first
                | exact p205bbbhI2
                | (rw [show (I126o 98 5).toNat = (I1 98 5).toNat - 1 by omega]
                   exact p126bbbbbhI2 hI1)
        · refine And.intro ⟨(by omega), (by omega)⟩ ⟨fun h159 => ?_, fun h159 => ?_⟩
          · refine And.intro (zA_98 hS) (zrdR (v := some 99) (zR_98_1 hR) ?_)
            refine And.intro (zP_99 hS (by omega) (by omega)) (fun v173 e173 r173 => ?_)
            have f173 : v173 = I1 99 (v126o % 1024).toNat := (e173.trans ((congrArg (I126o 99) (by omega)).trans (p126bbbbbbbfr 99 _ (by omega))))
            refine And.intro ⟨(by omega), r173⟩ ⟨fun h174 => ?_, fun h174 => ?_⟩
            · refine ⟨(1, (7169 - (m + 1)), 0), zlt6 (by omega), [some (zvr (98)), some (zvi (n)), some (zvi (rr)), some (zvi (bK s)), some (zvi (B)), some (zvi ((m + 1))), none, none, none, none], ⟨rfl, rfl, rfl, rfl, rfl, rfl, rfl⟩, (m + 1), B, (spU sp (I1 99) v126o), v126o, rfl, rfl, rfl, rfl, rfl, (by omega), (by omega), ?_, ?_, ?_, ?_, ?_, (by first | exact ht1 | exact (fun d h1 => ((p126bbbbbbbfr 100 _ (by omega)).trans rfl).trans (ht1 d h1)) | (clear hQ; grind [xu])), (fun c j h0 h1 h2 => ((p126bbbbbbbfr c j (by omega)).trans ((fr c j (by omega) (by omega) (by omega)).trans rfl))), (fun c j h0 => ((p126bbbbbbbbfrL c j (by omega)).trans ((frL c j (by omega)).trans rfl)))⟩
              · first
                | (rw [spU_f (by omega)]
                   omega)
                | (rw [spU_t rfl (by omega), zct_eq t174.2.1 t174.2.2.1]
                   omega)
              · first
                | (rw [spU_t rfl (by omega)]
                   exact bSx_c 0 p205bhx2)
                | (rw [spU_f (by omega), show (I126o 98 5).toNat = (I1 98 5).toNat - 1 by omega]
                   exact bSx_ext gB9 (bSx_ol gB9 hx1 (by omega) hO1 p126bbbbhD2 (p126bbbbbbhN2 hI1) p126hv (by omega)) (fun j _ => p126bbbbbbbfr 99 j (by omega)) (fun _ _ => rfl))
              · first
                | (rw [spU_f (by omega)]
                   exact hB1)
                | (rw [spU_t rfl (by omega)]
                   exact bBs_old hB1 (Or.inl (by omega)))
                | (rw [spU_t rfl (by omega)]
                   exact bBs_old hB1 (Or.inr (p187hv.resolve_left (fun w => by have := w.1; omega)).2))
                | (have e7 : bDn s n rr (v126o % 1024).toNat = bDi s n rr (bTr s n) (v126o % 1024).toNat := rfl
                   have e8 := t174.2.2.2.1
                   exact bBs_new hB1 (by omega) (p187hv.resolve_right (fun w => by have := w.1; omega)).2 (by omega) (by omega) (fun d q1 q2 => t174.2.2.2.2.2.2 d q1 (by
                     have e9 : bDn s n rr d = bDi s n rr (bTr s n) d := rfl
                     omega)) _)
              · first
                | exact p205bbhO2
                | (rw [show (I126o 98 5).toNat = (I1 98 5).toNat - 1 by omega]
                   exact p126bbbhO2)
              · first
                | exact p205bbbhI2
                | (rw [show (I126o 98 5).toNat = (I1 98 5).toNat - 1 by omega]
                   exact p126bbbbbhI2 hI1)
            · have t174 : bSx s n rr (bTr s n) ((hb_ + 352 : Int) * 1025) (I1 99) (L126o 102) ((I1 98 5).toNat - 1) (fun d => sp d ∨ d = (v126o % 1024).toNat) v126o (v126o % 1024).toNat 0 ∧ ¬ sp (v126o % 1024).toNat ∧ (v126o % 1024).toNat < bK s ∧ I1 99 (v126o % 1024).toNat = bDi s n rr (bTr s n) (v126o % 1024).toNat ∧ 0 ≤ I1 99 (v126o % 1024).toNat ∧ v126o = I1 99 (v126o % 1024).toNat * 1024 + (v126o % 1024).toNat ∧ ∀ d : Nat, 0 ≤ bDi s n rr (bTr s n) d → bDi s n rr (bTr s n) d < I1 99 (v126o % 1024).toNat → sp d := (bSx_nw gB9 hx1 (by omega) hO1 p126bbbbhD2 (p126bbbbbbhN2 hI1) p126hv (by omega))
              refine And.intro ⟨(by omega), (zRb rfl)⟩ ⟨fun h180 => ?_, (fun h180 => False.elim (by omega))⟩
              refine And.intro (zA_98 hS) ⟨_, sn_A_spr.up (by decide), ?_⟩
              refine ⟨b, s, (n : Int), rr, (bTr s n), ((hb_ + 352 : Int) * 1025), ((I1 98 5).toNat - 1), (fun d => sp d ∨ d = (v126o % 1024).toNat), v126o, (q145 : Int), (v126o % 1024).toNat, rfl, hS, hR, (by first | exact (zBA_fr hBA (fun c j h => ((p126bbbbbbbfr c j (by omega)).trans ((fr c j (by omega) (by omega) (by omega)).trans rfl))) (fun c j h => ((p126bbbbbbbbfrL c j (by omega)).trans ((frL c j (by omega)).trans rfl)))) | (clear hQ; grind [xu])), (by first | exact hGz | (clear hQ; grind [xu])), (by omega), (Or.inr rfl), (by rw [← t174.2.2.2.1]; exact t174.2.2.2.2.2.1), (by omega), (by have w := zct_eq t174.2.1 t174.2.2.1; have w2 := zct_le (fun d => sp d ∨ d = (v126o % 1024).toNat) (bK s); omega), (bSx_ext gB9 t174.1 (fun j _ => p126bbbbbbbfr 99 j (by omega)) (fun _ _ => rfl)), p126bbbhO2, (p126bbbbbhI2 hI1), (by first | exact ht1 | exact (fun d h1 => ((p126bbbbbbbfr 100 _ (by omega)).trans rfl).trans (ht1 d h1)) | (clear hQ; grind [xu])), ⟨fun d hd => by have w1 := hDU (v126o % 1024).toNat; have w2 := bTl_le hGz hd n rr (hbh9.1 d hd); omega, hUU⟩, ?_⟩
              intro I205o L205o p205hz2 p205bhx2 p205bbhO2 p205bbbhI2 p205bbbbfr p205bbbbbfrL
              refine ⟨(1, (7169 - (m + 1)), 0), zlt6 (by omega), [some (zvr (98)), some (zvi (n)), some (zvi (rr)), some (zvi (bK s)), some (zvi (B)), some (zvi ((m + 1))), none, none, none, none], ⟨rfl, rfl, rfl, rfl, rfl, rfl, rfl⟩, (m + 1), B, (spU sp (I1 99) v126o), v126o, rfl, rfl, rfl, rfl, rfl, (by omega), (by omega), ?_, ?_, ?_, ?_, ?_, (by first | exact ht1 | exact (fun d h1 => ((p205bbbbfr 100 _ (by omega) (by omega)).trans ((p126bbbbbbbfr 100 _ (by omega)).trans rfl)).trans (ht1 d h1)) | (clear hQ; grind [xu])), (fun c j h0 h1 h2 => ((p205bbbbfr c j (by omega) (by omega)).trans ((p126bbbbbbbfr c j (by omega)).trans ((fr c j (by omega) (by omega) (by omega)).trans rfl)))), (fun c j h0 => ((p205bbbbbfrL c j (by omega)).trans ((p126bbbbbbbbfrL c j (by omega)).trans ((frL c j (by omega)).trans rfl))))⟩
              · first
                | (rw [spU_f (by omega)]
                   omega)
                | (rw [spU_t rfl (by omega), zct_eq t174.2.1 t174.2.2.1]
                   omega)
              · first
                | (rw [spU_t rfl (by omega)]
                   exact bSx_c 0 p205bhx2)
                | (rw [spU_f (by omega), show (I126o 98 5).toNat = (I1 98 5).toNat - 1 by omega]
                   exact bSx_ext gB9 (bSx_ol gB9 hx1 (by omega) hO1 p126bbbbhD2 (p126bbbbbbhN2 hI1) p126hv (by omega)) (fun j _ => p126bbbbbbbfr 99 j (by omega)) (fun _ _ => rfl))
              · first
                | (rw [spU_f (by omega)]
                   exact hB1)
                | (rw [spU_t rfl (by omega)]
                   exact bBs_old hB1 (Or.inl (by omega)))
                | (rw [spU_t rfl (by omega)]
                   exact bBs_old hB1 (Or.inr (p187hv.resolve_left (fun w => by have := w.1; omega)).2))
                | (have e7 : bDn s n rr (v126o % 1024).toNat = bDi s n rr (bTr s n) (v126o % 1024).toNat := rfl
                   have e8 := t174.2.2.2.1
                   exact bBs_new hB1 (by omega) (p187hv.resolve_right (fun w => by have := w.1; omega)).2 (by omega) (by omega) (fun d q1 q2 => t174.2.2.2.2.2.2 d q1 (by
                     have e9 : bDn s n rr d = bDi s n rr (bTr s n) d := rfl
                     omega)) _)
              · first
                | exact p205bbhO2
                | (rw [show (I126o 98 5).toNat = (I1 98 5).toNat - 1 by omega]
                   exact p126bbbhO2)
              · first
                | exact p205bbbhI2
                | (rw [show (I126o 98 5).toNat = (I1 98 5).toNat - 1 by omega]
                   exact p126bbbbbhI2 hI1)
          · refine And.intro ⟨(by omega), (zRb rfl)⟩ ⟨fun h217 => ?_, (fun h217 => False.elim (by omega))⟩
            refine And.intro (zA_98 hS) ⟨_, sn_A_padD.up (by decide), ?_⟩
            refine ⟨b, s, (n : Int), (B : Int), tr, rfl, hS, hR, (by first | exact (zBA_fr hBA (fun c j h => ((p126bbbbbbbfr c j (by omega)).trans ((fr c j (by omega) (by omega) (by omega)).trans rfl))) (fun c j h => ((p126bbbbbbbbfrL c j (by omega)).trans ((frL c j (by omega)).trans rfl)))) | (clear hQ; grind [xu])), (by first | exact hGz | (clear hQ; grind [xu])), (by omega), (by first | exact hpd | (clear hQ; grind [xu])), (by first | exact htr | exact (fun j h1 => ((p126bbbbbbbfr 101 _ (by omega)).trans ((fr 101 _ (by omega) (by omega) (by omega)).trans rfl)).trans (htr j h1)) | (clear hQ; grind [xu])), ?_⟩
            intro v228o p228hv p228bhv2
            refine hQ _ _ _ ?_ (by omega) (by first | exact ht1 | exact (fun d h1 => ((p126bbbbbbbfr 100 _ (by omega)).trans rfl).trans (ht1 d h1)) | (clear hQ; grind [xu])) ?_ ?_ (fun c j h0 h1 h2 => ((p126bbbbbbbfr c j (by omega)).trans ((fr c j (by omega) (by omega) (by omega)).trans rfl))) (fun c j h0 => ((p126bbbbbbbbfrL c j (by omega)).trans ((frL c j (by omega)).trans rfl)))
            · first
              | exact ((bSx_end gB9 hx1 hB1 (Or.inl (by omega))).2.2.1 (by omega)).symm
              | exact p228hv.trans ((bSx_end gB9 hx1 hB1 (Or.inl (by omega))).2.2.2 (by omega)).symm
              | (have e9 : I126o 99 = I1 99 := (funext (fun j => p126bbbbbbbfr 99 j (by omega)))
                 rw [e9] at p228hv
                 exact p228hv.trans ((bSx_end gB9 hx1 hB1 (Or.inr ⟨by omega, hO1, by rw [← p126hv]; omega⟩)).2.2.2 (by omega)).symm)
            · first
              | exact (bSx_end gB9 hx1 hB1 (Or.inl (by omega))).1
              | (have e9 : I126o 99 = I1 99 := (funext (fun j => p126bbbbbbbfr 99 j (by omega)))
                 rw [e9]
                 exact (bSx_end gB9 hx1 hB1 (Or.inr ⟨by omega, hO1, by rw [← p126hv]; omega⟩)).1)
            · first
              | exact (bSx_end gB9 hx1 hB1 (Or.inl (by omega))).2.1
              | (have e9 : I126o 99 = I1 99 := (funext (fun j => p126bbbbbbbfr 99 j (by omega)))
                 rw [e9]
                 exact (bSx_end gB9 hx1 hB1 (Or.inr ⟨by omega, hO1, by rw [← p126hv]; omega⟩)).2.1))
