/-! bd6 -/
def T_A_bar : ZT := fun args I L R S Q => ∃ (b : Nat) (s : BdS) (l : Int) (i : Int) (j : Int), args = [zvr 82, zvi l, zvi i, zvi j] ∧ (zSh S) ∧ (zRs R) ∧ (I 82 0 = b - 1) ∧ (b ≠ 0 → zBA b s I L ∧ bGd s) ∧ (r32 l ∧ r32 i ∧ r32 j) ∧ (b ≤ 6) ∧ ∀ (v : Int) (I' : ZI), (v = bBarV b s l i j) → (v = 0 → zBA b (bBar s (cxI (bW s) (bH s) (bD s) l i j).toNat) I' L) → (v ≠ 0 → ∀ c j, I' c j = I c j) → (∀ c j : Nat, ¬ c = 84 → I' c j = I c j) → Q (some (zvi (v))) I' L R S
theorem sn_A_bar : ZSnd 2 0 2 T_A_bar := ZSnd.of (zT0_2 1) (by
  rintro args I L R S Q hz ⟨b, s, l, i, j, rfl, hS, hR, hb0, hBG, hr, hb6, hQ⟩
  have hx9 : b ≠ 0 → (I 82 1 = bW s ∧ I 82 2 = bH s ∧ I 82 3 = bD s) := fun h => ⟨(hBG h).1.1.2.1, (hBG h).1.1.2.2.1, (hBG h).1.1.2.2.2.1⟩
  have hx8 : b ≠ 0 → (1 ≤ bW s ∧ bW s ≤ 16 ∧ 1 ≤ bH s ∧ bH s ≤ 16 ∧ 1 ≤ bD s ∧ bD s ≤ 4) ∧ bW s * bH s * bD s ≤ 1024 := fun h => by obtain ⟨⟨w1, w2, w3, w4⟩, -⟩ := (hBG h).2; exact ⟨⟨w1.1, w1.2, w2.1, w2.2, w3.1, w3.2⟩, w4⟩
  refine And.intro rfl ?_
  refine And.intro (zA_82 hS) (zrd (v := (b - 1)) hb0 ?_)
  refine And.intro ⟨(by omega), (zRb rfl)⟩ ⟨fun h5 => ?_, fun h5 => ?_⟩
  · have t5 : 1 ≤ b := (by omega)
    refine And.intro (zA_82 hS) ⟨_, sn_A_cell.up (by decide), ?_⟩
    refine ⟨(bW s), (bH s), (bD s), (l : Int), (i : Int), (j : Int), rfl, hS, hR, (hx9 (by omega)).1, (hx9 (by omega)).2.1, (hx9 (by omega)).2.2, (hx8 (by omega)).1, (hx8 (by omega)).2, (by omega), ?_⟩
    intro v15o p15hv p15bhv2
    refine And.intro ⟨(by omega), (zRb rfl)⟩ ⟨fun h23 => ?_, fun h23 => ?_⟩
    · have t23 : 0 ≤ v15o := (by omega)
      refine And.intro (zA_82 hS) (zrdR (v := some 84) (zR_82_6 hR) ?_)
      refine And.intro (Or.inr (zP_84 hS (by omega) (by omega))) (fun v35 e35 r35 => ?_)
      have f35 : v35 = bba s v15o.toNat := (e35.trans ((congrArg (I 84) (by omega)).trans ((hBG (by omega)).1.2.2.1 v15o.toNat (by omega)).1))
      have f35b : v35 ≤ 1 := (by have := ((hBG (by omega)).2.2.2.1 v15o.toNat (by omega)).1; omega)
      refine And.intro r35 ⟨fun h36 => ?_, fun h36 => ?_⟩
      · refine hQ _ _ ?_ ?_ (fun h => by first | exact fun _ _ => rfl | exact absurd rfl h) (fun c j h0 => rfl)
        · unfold bBarV
          first
          | rw [if_pos (by omega)]
          | rw [if_neg (by omega), if_pos (by omega)]
          | (rw [if_neg (by omega), if_neg (by omega), ← p15hv, if_pos (by omega)])
          | (rw [if_neg (by omega), if_neg (by omega), ← p15hv, if_neg (by omega)])
        · intro h
          first
          | exact absurd h (by decide)
          | (rw [← p15hv]
             obtain ⟨⟨q1, q2, q3, q4, q5⟩, h2, h3, h4, h5, h6, h7, h8⟩ := (hBG (by omega)).1
             refine ⟨⟨q1, q2, q3, q4, q5⟩, h2, fun c hc => ?_, h4, h5, h6, h7, h8⟩
             refine ⟨?_, (h3 c hc).2.1, (h3 c hc).2.2.1, (h3 c hc).2.2.2⟩
             show _ = ((upF (bba s) v15o.toNat 1 c : Nat) : Int)
             by_cases e : c = v15o.toNat
             · subst e
               rw [upF_at]
               exact zxe
             · rw [upF_ne e]
               exact zxs e (h3 c hc).1)
      · refine And.intro (zA_82 hS) (zrdR (v := some 86) (zR_82_8 hR) ?_)
        refine And.intro (zP_86 hS (by omega) (by omega)) (fun v45 e45 r45 => ?_)
        have f45 : v45 = bho s v15o.toNat := (e45.trans ((congrArg (I 86) (by omega)).trans ((hBG (by omega)).1.2.2.1 v15o.toNat (by omega)).2.2.1))
        refine And.intro ⟨r45, (zRb rfl)⟩ ⟨fun h47 => ?_, fun h47 => ?_⟩
        · refine And.intro (zA_82 hS) (zrdR (v := some 84) (zR_82_6 hR) ?_)
          refine And.intro ⟨(zx0 rfl), Or.inr ⟨(zP_84 hS (by omega) (by omega)), (Or.inr rfl)⟩⟩ ?_
          refine hQ _ _ ?_ ?_ (fun h => by first | exact fun _ _ => rfl | exact absurd rfl h) (fun c j h0 => (zxu h0 rfl))
          · unfold bBarV
            first
            | rw [if_pos (by omega)]
            | rw [if_neg (by omega), if_pos (by omega)]
            | (rw [if_neg (by omega), if_neg (by omega), ← p15hv, if_pos (by omega)])
            | (rw [if_neg (by omega), if_neg (by omega), ← p15hv, if_neg (by omega)])
          · intro h
            first
            | exact absurd h (by decide)
            | (rw [← p15hv]
               obtain ⟨⟨q1, q2, q3, q4, q5⟩, h2, h3, h4, h5, h6, h7, h8⟩ := (hBG (by omega)).1
               refine ⟨⟨q1, q2, q3, q4, q5⟩, h2, fun c hc => ?_, h4, h5, h6, h7, h8⟩
               refine ⟨?_, (h3 c hc).2.1, (h3 c hc).2.2.1, (h3 c hc).2.2.2⟩
               show _ = ((upF (bba s) v15o.toNat 1 c : Nat) : Int)
               by_cases e : c = v15o.toNat
               · subst e
                 rw [upF_at]
                 exact zxe
               · rw [upF_ne e]
                 exact zxs e (h3 c hc).1)
        · refine hQ _ _ ?_ ?_ (fun h => by first | exact fun _ _ => rfl | exact absurd rfl h) (fun c j h0 => rfl)
          · unfold bBarV
            first
            | rw [if_pos (by omega)]
            | rw [if_neg (by omega), if_pos (by omega)]
            | (rw [if_neg (by omega), if_neg (by omega), ← p15hv, if_pos (by omega)])
            | (rw [if_neg (by omega), if_neg (by omega), ← p15hv, if_neg (by omega)])
          · intro h
            first
            | exact absurd h (by decide)
            | (rw [← p15hv]
               obtain ⟨⟨q1, q2, q3, q4, q5⟩, h2, h3, h4, h5, h6, h7, h8⟩ := (hBG (by omega)).1
               refine ⟨⟨q1, q2, q3, q4, q5⟩, h2, fun c hc => ?_, h4, h5, h6, h7, h8⟩
               refine ⟨?_, (h3 c hc).2.1, (h3 c hc).2.2.1, (h3 c hc).2.2.2⟩
               show _ = ((upF (bba s) v15o.toNat 1 c : Nat) : Int)
               by_cases e : c = v15o.toNat
               · subst e
                 rw [upF_at]
                 exact zxe
               · rw [upF_ne e]
                 exact zxs e (h3 c hc).1)
    · refine hQ _ _ ?_ ?_ (fun h => by first | exact fun _ _ => rfl | exact absurd rfl h) (fun c j h0 => rfl)
      · unfold bBarV
        first
        | rw [if_pos (by omega)]
        | rw [if_neg (by omega), if_pos (by omega)]
        | (rw [if_neg (by omega), if_neg (by omega), ← p15hv, if_pos (by omega)])
        | (rw [if_neg (by omega), if_neg (by omega), ← p15hv, if_neg (by omega)])
      · intro h
        first
        | exact absurd h (by decide)
        | (rw [← p15hv]
           obtain ⟨⟨q1, q2, q3, q4, q5⟩, h2, h3, h4, h5, h6, h7, h8⟩ := (hBG (by omega)).1
           refine ⟨⟨q1, q2, q3, q4, q5⟩, h2, fun c hc => ?_, h4, h5, h6, h7, h8⟩
           refine ⟨?_, (h3 c hc).2.1, (h3 c hc).2.2.1, (h3 c hc).2.2.2⟩
           show _ = ((upF (bba s) v15o.toNat 1 c : Nat) : Int)
           by_cases e : c = v15o.toNat
           · subst e
             rw [upF_at]
             exact zxe
           · rw [upF_ne e]
             exact zxs e (h3 c hc).1)
  · refine hQ _ _ ?_ ?_ (fun h => by first | exact fun _ _ => rfl | exact absurd rfl h) (fun c j h0 => rfl)
    · unfold bBarV
      first
      | rw [if_pos (by omega)]
      | rw [if_neg (by omega), if_pos (by omega)]
      | (rw [if_neg (by omega), if_neg (by omega), ← p15hv, if_pos (by omega)])
      | (rw [if_neg (by omega), if_neg (by omega), ← p15hv, if_neg (by omega)])
    · intro h
      first
      | exact absurd h (by decide)
      | (rw [← p15hv]
         obtain ⟨⟨q1, q2, q3, q4, q5⟩, h2, h3, h4, h5, h6, h7, h8⟩ := (hBG (by omega)).1
         refine ⟨⟨q1, q2, q3, q4, q5⟩, h2, fun c hc => ?_, h4, h5, h6, h7, h8⟩
         refine ⟨?_, (h3 c hc).2.1, (h3 c hc).2.2.1, (h3 c hc).2.2.2⟩
         show _ = ((upF (bba s) v15o.toNat 1 c : Nat) : Int)
         by_cases e : c = v15o.toNat
         · subst e
           rw [upF_at]
           exact zxe
         · rw [upF_ne e]
           exact zxs e (h3 c hc).1))
def T_A_begin : ZT := fun args I L R S Q => ∃ (W : Nat) (H : Nat) (D : Nat) (b : Nat) (sd : Int), args = [zvr 82, zvi W, zvi H, zvi D, zvl sd] ∧ (zSh S) ∧ (zRs R) ∧ (I 82 0 = b - 1) ∧ (I 88 1 = 40) ∧ (I 90 1 = 12) ∧ (1 ≤ W ∧ W ≤ 16 ∧ 1 ≤ H ∧ H ≤ 16 ∧ 1 ≤ D ∧ D ≤ 4) ∧ (W * H * D ≤ 1024) ∧ (r64 sd) ∧ (b < 6) ∧ ∀ (I' : ZI) (L' : ZI), (zBA (b + 1) (bNew W H D sd (I 97)) I' L') → (∀ c j : Nat, ¬ c = 82 → ¬ c = 83 → ¬ c = 84 → ¬ c = 85 → ¬ c = 86 → ¬ c = 87 → ¬ (c = 88 ∧ j = 2) → ¬ (c = 90 ∧ j = 2) → ¬ c = 94 → ¬ c = 95 → ¬ c = 96 → I' c j = I c j) → (∀ c j : Nat, ¬ c = 82 → L' c j = L c j) → Q none I' L' R S
theorem sn_A_begin : ZSnd 3 0 3 T_A_begin := ZSnd.loops (zT0_3 2) (by
  rintro args I L R S Q hz ⟨W, H, D, b, sd, rfl, hS, hR, hb0, hP1, hN1, hsz, hb9, hsd, hb6, hQ⟩
  refine ⟨[50, 99], fun nM tM lsM stM I1 L1 R1 S1 => match tM with
      | 50 => ∃ (c : Nat), nM = (2, (1024 - c), 0) ∧ lsM = [some (zvr (82)), some (zvi (W)), some (zvi (H)), some (zvi (D)), none, none, some (zvi (c))] ∧ stM = [] ∧ R1 = R ∧ S1 = S ∧ (c ≤ 1024) ∧ (I1 82 0 = b ∧ I1 82 1 = W ∧ I1 82 2 = H ∧ I1 82 3 = D ∧ L1 82 4 = sd ∧ I1 88 2 = 0 ∧ I1 90 2 = 0 ∧ I1 88 1 = 40 ∧ I1 90 1 = 12) ∧ (∀ q : Nat, q < c → I1 84 q = 0 ∧ I1 85 q = 0 ∧ I1 86 q = -1 ∧ I1 87 q = -1) ∧ (∀ c j : Nat, ¬ c = 82 → ¬ c = 84 → ¬ c = 85 → ¬ c = 86 → ¬ c = 87 → ¬ (c = 88 ∧ j = 2) → ¬ (c = 90 ∧ j = 2) → I1 c j = I c j) ∧ (∀ c j : Nat, ¬ c = 82 → L1 c j = L c j)
      | 99 => ∃ (l : Nat), nM = (1, (4 - l), 0) ∧ lsM = [some (zvr (82)), none, none, none, none, none, some (zvi (l))] ∧ stM = [] ∧ R1 = R ∧ S1 = S ∧ (l ≤ 4) ∧ (I1 82 1 = W) ∧ (I1 82 2 = H) ∧ (I1 82 3 = D) ∧ (I1 82 0 = b ∧ L1 82 4 = sd ∧ I1 88 2 = 0 ∧ I1 90 2 = 0 ∧ I1 88 1 = 40 ∧ I1 90 1 = 12) ∧ (∀ q : Nat, q < 1024 → I1 84 q = 0 ∧ I1 85 q = 0 ∧ I1 86 q = -1 ∧ I1 87 q = -1) ∧ (∀ q : Nat, q < l → I1 94 q = 0 ∧ I1 95 q = 0 ∧ I1 96 q = 0) ∧ (∀ c j : Nat, ¬ c = 82 → ¬ c = 84 → ¬ c = 85 → ¬ c = 86 → ¬ c = 87 → ¬ (c = 88 ∧ j = 2) → ¬ (c = 90 ∧ j = 2) → ¬ c = 94 → ¬ c = 95 → ¬ c = 96 → I1 c j = I c j) ∧ (∀ c j : Nat, ¬ c = 82 → L1 c j = L c j)
      | _ => False, rfl, ?_, ⟨?_, ?_, True.intro⟩⟩
  · refine And.intro (zA_82 hS) (zrd (v := (b - 1)) hb0 ?_)
    refine And.intro (zA_82 hS) ⟨_, (zWi (by omega)), ?_⟩
    refine And.intro (zA_82 hS) ⟨_, (zWi (by omega)), ?_⟩
    refine And.intro (zA_82 hS) ⟨_, (zWi (by omega)), ?_⟩
    refine And.intro (zA_82 hS) ⟨_, (zWi (by omega)), ?_⟩
    refine And.intro (zA_82 hS) ⟨_, zW6i (by omega), ?_⟩
    refine And.intro (zA_82 hS) (zrdR (v := some 88) (zR_82_10 hR) ?_)
    refine And.intro (zA_88 hS) ⟨_, (zWi (zRb rfl)), ?_⟩
    refine And.intro (zA_82 hS) (zrdR (v := some 90) (zR_82_11 hR) ?_)
    refine And.intro (zA_90 hS) ⟨_, (zWi (zRb rfl)), ?_⟩
    refine ⟨(2, (1024 - (0 : Nat)), 0), [some (zvr (82)), some (zvi (W)), some (zvi (H)), some (zvi (D)), none, none, some (zvi ((0 : Nat)))], ⟨rfl, rfl, rfl, rfl, rfl, rfl⟩, 0, rfl, rfl, rfl, rfl, rfl, (by omega), ⟨(by show (b : Int) - 1 + 1 = b; omega), rfl, rfl, rfl, rfl, rfl, rfl, hP1, hN1⟩, (fun q h => absurd h (Nat.not_lt_zero q)), (fun c j h0 h1 h2 h3 h4 h5 h6 => (zxcj h6 (zxcj h5 (zxu h0 (zxu h0 (zxu h0 (zxu h0 rfl))))))), (fun c j h0 => (zxu h0 rfl))⟩
  · rintro nM lsM stM I1 L1 R1 S1 hz1 ⟨c, rfl, rfl, rfl, rfl, rfl, hc, hg, hcl, fr, frL⟩
    refine And.intro ⟨(by omega), (zRb rfl)⟩ ⟨fun h55 => ?_, fun h55 => ?_⟩
    · refine ⟨(1, (4 - (0 : Nat)), 0), zlt6 (by omega), [some (zvr (82)), none, none, none, none, none, some (zvi ((0 : Nat)))], ⟨rfl, rfl, rfl⟩, 0, rfl, rfl, rfl, rfl, rfl, (by omega), hg.2.1, hg.2.2.1, hg.2.2.2.1, ⟨hg.1, hg.2.2.2.2.1, hg.2.2.2.2.2.1, hg.2.2.2.2.2.2.1, hg.2.2.2.2.2.2.2.1, hg.2.2.2.2.2.2.2.2⟩, (fun q hq => hcl q (by omega)), (fun q h => absurd h (Nat.not_lt_zero q)), (fun c j h0 h1 h2 h3 h4 h5 h6 h7 h8 h9 => ((fr c j (by omega) (by omega) (by omega) (by omega) (by omega) (by omega) (by omega)).trans rfl)), (fun c j h0 => ((frL c j (by omega)).trans rfl))⟩
    · refine And.intro (zA_82 hS) (zrdR (v := some 84) (zR_82_6 hR) ?_)
      refine And.intro ⟨(zx0 rfl), Or.inr ⟨(zP_84 hS (by omega) (by omega)), (Or.inl rfl)⟩⟩ ?_
      refine And.intro (zA_82 hS) (zrdR (v := some 85) (zR_82_7 hR) ?_)
      refine And.intro ⟨(zx0 rfl), (zP_85 hS (by omega) (by omega))⟩ ⟨_, (zWi (zRb rfl)), ?_⟩
      refine And.intro (zA_82 hS) (zrdR (v := some 86) (zR_82_8 hR) ?_)
      refine And.intro ⟨(zx0 rfl), (zP_86 hS (by omega) (by omega))⟩ ⟨_, (zWi (zRb rfl)), ?_⟩
      refine And.intro (zA_82 hS) (zrdR (v := some 87) (zR_82_9 hR) ?_)
      refine And.intro ⟨(zx0 rfl), (zP_87 hS (by omega) (by omega))⟩ ⟨_, (zWi (zRb rfl)), ?_⟩
      refine ⟨(2, (1024 - (c + 1)), 0), zlt6 (by omega), [some (zvr (82)), some (zvi (W)), some (zvi (H)), some (zvi (D)), none, none, some (zvi ((c + 1)))], ⟨rfl, rfl, rfl, rfl, rfl, rfl⟩, (c + 1), rfl, rfl, rfl, rfl, rfl, (by omega), hg, ?_, (fun c j h0 h1 h2 h3 h4 h5 h6 => (zxu h4 (zxu h3 (zxu h2 (zxu h1 ((fr c j (by omega) (by omega) (by omega) (by omega) (by omega) (by omega) (by omega)).trans rfl)))))), (fun c j h0 => ((frL c j (by omega)).trans rfl))⟩
      · intro q hq
        by_cases e : q = c
        · subst e
          exact ⟨zxu (by decide) (zxu (by decide) (zxu (by decide) zxe)), zxu (by decide) (zxu (by decide) zxe), zxu (by decide) zxe, zxe⟩
        · have w := hcl q (by omega)
          exact ⟨zxu (by decide) (zxu (by decide) (zxu (by decide) (zxs e w.1))), zxu (by decide) (zxu (by decide) (zxs e w.2.1)), zxu (by decide) (zxs e w.2.2.1), zxs e w.2.2.2⟩
  · rintro nM lsM stM I1 L1 R1 S1 hz1 ⟨l, rfl, rfl, rfl, rfl, rfl, hl, hw, hh, hd, hg, hcl, hco, fr, frL⟩
    refine And.intro ⟨(by omega), (zRb rfl)⟩ ⟨fun h102 => ?_, fun h102 => ?_⟩
    · refine And.intro (zA_82 hS) ⟨_, sn_A_findN.up (by decide), ?_⟩
      refine ⟨W, H, D, rfl, hS, hR, hw, hh, hd, hsz, hb9, ?_⟩
      intro I121o p121hnb p121bfr
      refine hQ _ _ ?_ (fun c j h0 h1 h2 h3 h4 h5 h6 h7 h8 h9 h10 => ((p121bfr c j (by omega)).trans ((fr c j (by omega) (by omega) (by omega) (by omega) (by omega) (by omega) (by omega) (by omega) (by omega) (by omega)).trans rfl))) (fun c j h0 => ((frL c j (by omega)).trans rfl))
      · obtain ⟨a1, a2, a3, a4, a5, a6⟩ := hg
        have F := p121bfr
        refine ⟨⟨(F 82 0 (by omega)).trans (a1.trans (by omega)), (F 82 1 (by omega)).trans hw, (F 82 2 (by omega)).trans hh, (F 82 3 (by omega)).trans hd, a2⟩, p121hnb, fun c hc => ⟨(F 84 c (by omega)).trans (hcl c hc).1, (F 85 c (by omega)).trans (hcl c hc).2.1, (F 86 c (by omega)).trans (hcl c hc).2.2.1, (F 87 c (by omega)).trans (hcl c hc).2.2.2⟩,
          ⟨(F 88 1 (by omega)).trans a5, (F 88 2 (by omega)).trans a3, Nat.zero_le _, fun x y h => absurd h (Nat.not_lt_zero x)⟩, ⟨(F 90 1 (by omega)).trans a6, (F 90 2 (by omega)).trans a4, Nat.zero_le _, fun x y h => absurd h (Nat.not_lt_zero x)⟩, fun n hn => absurd hn (Nat.not_lt_zero n), fun q hq => ⟨(F 94 q (by omega)).trans (hco q (by omega)).1, (F 95 q (by omega)).trans (hco q (by omega)).2.1, (F 96 q (by omega)).trans (hco q (by omega)).2.2⟩, fun x hx => (F 97 x (by omega)).trans (fr 97 x (by omega) (by omega) (by omega) (by omega) (by omega) (by omega) (by omega) (by omega) (by omega) (by omega))⟩
    · refine And.intro (zA_82 hS) (Exists.intro _ (And.intro (zinl_ok (zT0_22 1)) (And.intro rfl ?_)))
      refine And.intro (zA_82 hS) (zrdR (v := some 94) (zR_82_14 hR) ?_)
      refine And.intro ⟨(zx0 rfl), (zP_94 hS (by omega) (by omega))⟩ ⟨_, (zWi (zRb rfl)), ?_⟩
      refine And.intro (zA_82 hS) (zrdR (v := some 95) (zR_82_15 hR) ?_)
      refine And.intro ⟨(zx0 rfl), (zP_95 hS (by omega) (by omega))⟩ ⟨_, (zWi (zRb rfl)), ?_⟩
      refine And.intro (zA_82 hS) (zrdR (v := some 96) (zR_82_16 hR) ?_)
      refine And.intro ⟨(zx0 rfl), (zP_96 hS (by omega) (by omega))⟩ ⟨_, (zWi (zRb rfl)), ?_⟩
      refine ⟨(1, (4 - (l + 1)), 0), zlt6 (by omega), [some (zvr (82)), none, none, none, none, none, some (zvi ((l + 1)))], ⟨rfl, rfl, rfl⟩, (l + 1), rfl, rfl, rfl, rfl, rfl, (by omega), hw, hh, hd, hg, hcl, ?_, (fun c j h0 h1 h2 h3 h4 h5 h6 h7 h8 h9 => (zxu h9 (zxu h8 (zxu h7 ((fr c j (by omega) (by omega) (by omega) (by omega) (by omega) (by omega) (by omega) (by omega) (by omega) (by omega)).trans rfl))))), (fun c j h0 => ((frL c j (by omega)).trans rfl))⟩
      · intro q hq
        by_cases e : q = l
        · subst e
          exact ⟨zxu (by decide) (zxu (by decide) zxe), zxu (by decide) zxe, zxe⟩
        · have w := hco q (by omega)
          exact ⟨zxu (by decide) (zxu (by decide) (zxs e w.1)), zxu (by decide) (zxs e w.2.1), zxs e w.2.2⟩)
