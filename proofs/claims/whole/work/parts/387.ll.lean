/-! ll -/
def T_A_lead : ZT := fun args I L R S Q => ∃ (b : Nat) (s : BdS) (n : Nat) (x : Int) (hb_ : Nat) (rb : Nat), args = [zvr 98, zvi x] ∧ (zSh S) ∧ (zRs R) ∧ (zBA b s I L) ∧ (bGd s) ∧ (x = n ∧ n < bnn s) ∧ (0 < bN s n 1) ∧ (bN s n 2 = 0) ∧ (∀ c, c < 1024 → bhi s c ≤ hb_) ∧ (∀ m, m < bnn s → 0 ≤ bN s m 4 ∧ bN s m 4 ≤ rb) ∧ (hb_ + 5 ≤ 400000) ∧ (rb + 5 ≤ 1900000000) ∧ ∀ (I' : ZI) (L' : ZI), (zBA b (bLd s n) I' L') → (∀ c j : Nat, ¬ c = 85 → ¬ c = 86 → ¬ c = 91 → ¬ c = 92 → ¬ c = 93 → ¬ c = 101 → ¬ c = 99 → ¬ c = 100 → ¬ (c = 98 ∧ j = 5) → I' c j = I c j) → (∀ c j : Nat, ¬ c = 102 → L' c j = L c j) → Q none I' L' R S
theorem sn_A_lead : ZSnd 6 6 10 T_A_lead := ZSnd.loops (zT6_10 5) (by
  rintro args I L R S Q hz ⟨b, s, n, x, hb_, rb, rfl, hS, hR, hBA, hGd, hxn, hp0, hop, hhi, hrp, hhb, hrb, hQ⟩
  obtain ⟨⟨hb0, hbw, hbh, hbd, hbs⟩, hnb, hcl, hPT, hNT, hwy, hco, hnd⟩ := id hBA
  obtain ⟨hP1, hP2, hP3, hP4⟩ := id hPT
  obtain ⟨hN1, hN2, hN3, hN4⟩ := id hNT
  obtain ⟨⟨⟨gW1, gW2⟩, ⟨gH1, gH2⟩, ⟨gD1, gD2⟩, gB9⟩, ⟨gnp, gnn⟩, gc, gp, gn, gco, gnd, gun⟩ := id hGd
  have hKe : bK s = bW s * bH s * bD s := rfl
  have hL0 := bLs_li hGd hxn.2 hp0 hop hhi hrp
  have hpd : ∀ p : Nat, p < bnp s → 0 ≤ bP s p 2 ∧ bP s p 2 < bK s := fun p hp => (gp p hp).2.2.1
  have hwl0 : bwl s n = 0 := (gn n hxn.2).2.2.2.2.2.1 hop
  obtain ⟨p0, hp1, hp2, hp3⟩ := bFp_sp hGd hxn.2 hp0
  have hpc := hpd p0 hp1
  have hph : bho s (bFp s n).toNat = n := by rw [hp3, ← hp2]; exact (gp p0 hp1).2.2.2.2.2
  refine ⟨[2, 40], fun nM tM lsM stM I1 L1 R1 S1 => match tM with
      | 2 => ∃ (k : Nat), nM = (3, (1025 - k), 0) ∧ lsM = [some (zvr (98)), some (zvi (n)), some (zvi (k)), none, none, none, none] ∧ stM = [] ∧ L1 = L ∧ R1 = R ∧ S1 = S ∧ (k ≤ 1024) ∧ (∀ j : Nat, j < k → I1 101 j = 0) ∧ (∀ c j : Nat, ¬ c = 101 → I1 c j = I c j)
      | 40 => ∃ (k : Nat) (t : BdS) (a : Int) (st : Int), nM = (2, (6 - k), 0) ∧ lsM = [some (zvr (98)), some (zvi (n)), some (zvl (a)), none, some (zvi (st)), some (zvi (k)), none] ∧ stM = [] ∧ R1 = R ∧ S1 = S ∧ (k ≤ 5) ∧ (0 ≤ st ∧ st ≤ 1) ∧ (zBA b t I1 L1) ∧ (bLi t n hb_ (rb + k)) ∧ (-(k : Int) ≤ a ∧ a ≤ (k : Int) * 409960448) ∧ ((st = 0 ∧ (∀ j : Nat, j < 1024 → I1 101 j = bTn t n j) ∧ bLr s n = bLp n (5 - k) t a) ∨ (st = 1 ∧ bLr s n = (t, a, 1))) ∧ (∀ c j : Nat, ¬ c = 85 → ¬ c = 86 → ¬ c = 91 → ¬ c = 92 → ¬ c = 93 → ¬ c = 101 → ¬ c = 99 → ¬ c = 100 → ¬ (c = 98 ∧ j = 5) → I1 c j = I c j) ∧ (∀ c j : Nat, ¬ c = 102 → L1 c j = L c j)
      | _ => False, rfl, ?_, ⟨?_, ?_, True.intro⟩⟩
  · refine ⟨(3, (1025 - (0 : Nat)), 0), [some (zvr (98)), some (zvi (n)), some (zvi ((0 : Nat))), none, none, none, none], ⟨rfl, (congrArg (fun z => some (zvi z)) (by omega)), rfl, rfl⟩, 0, rfl, rfl, rfl, rfl, rfl, rfl, (by omega), (fun j h => absurd h (Nat.not_lt_zero j)), (fun c j h0 => rfl)⟩
  · rintro nM lsM stM I1 L1 R1 S1 hz1 ⟨k, rfl, rfl, rfl, rfl, rfl, rfl, hk, ht0, fr⟩
    refine And.intro ⟨(by omega), (zRb rfl)⟩ ⟨fun h6 => ?_, fun h6 => ?_⟩
    · refine And.intro (zA_98 hS) ⟨_, sn_A_first.up (by decide), ?_⟩
      refine ⟨b, s, (n : Int), rfl, hS, hR, (by first | exact (zBA_fr hBA (fun c j h => ((fr c j (by omega)).trans rfl)) (fun c j h => rfl)) | (clear hQ; grind [xu])), (by omega), gnp, hpd, ?_⟩
      intro v26o p26hv
      refine And.intro (zA_98 hS) ⟨_, sn_A_growR.up (by decide), ?_⟩
      refine ⟨b, s, n, (n : Int), (v26o : Int), (bFp s n).toNat, rfl, hS, hR, (by first | exact (zBA_fr hBA (fun c j h => ((fr c j (by omega)).trans rfl)) (fun c j h => rfl)) | (clear hQ; grind [xu])), (by omega), ⟨by omega, by omega⟩, hph, (by omega), (fun m hm => (gn m hm).2.2.2.2.1), gnn, ?_⟩
      intro I29o p29hBA2 p29bht2 p29bbfr
      refine ⟨(2, (6 - (0 : Nat)), 0), zlt6 (by omega), [some (zvr (98)), some (zvi (n)), some (zvl ((0 : Int))), none, some (zvi ((0 : Int))), some (zvi ((0 : Nat))), none], ⟨rfl, rfl, rfl, rfl, rfl, rfl⟩, 0, (bLs s n), 0, 0, rfl, rfl, rfl, rfl, rfl, (by omega), (by omega), p29hBA2, hL0, (by omega), ?_, (fun c j h0 h1 h2 h3 h4 h5 h6 h7 h8 => ((p29bbfr c j (by omega) (by omega) (by omega)).trans ((fr c j (by omega)).trans rfl))), (fun c j h0 => rfl)⟩
      · refine Or.inl ⟨rfl, fun j hj => ?_, rfl⟩
        rw [p29bht2 j hj, bLs_tr hwl0]
        by_cases e : j = (bFp s n).toNat
        · rw [if_pos e, if_pos e]
        · rw [if_neg e, if_neg e]
          exact ht0 j (by omega)
    · refine And.intro (zA_98 hS) (zrdR (v := some 101) (zR_98_3 hR) ?_)
      refine And.intro ⟨(zx0 rfl), Or.inr ⟨(zP_101 hS (by omega) (by omega)), (Or.inl rfl)⟩⟩ ?_
      refine ⟨(3, (1025 - (k + 1)), 0), zlt6 (by omega), [some (zvr (98)), some (zvi (n)), some (zvi ((k + 1))), none, none, none, none], ⟨rfl, rfl, rfl, rfl⟩, (k + 1), rfl, rfl, rfl, rfl, rfl, rfl, (by omega), ?_, (fun c j h0 => (zxu h0 ((fr c j (by omega)).trans rfl)))⟩
      · intro j hj
        by_cases e : j = k
        · rw [e]
          exact zxe
        · exact zxs (by omega) (ht0 j (by omega))
  · rintro nM lsM stM I1 L1 R1 S1 hz1 ⟨k, t, a, st, rfl, rfl, rfl, rfl, rfl, hk, hs9, hB, hLi, ha, hst, fr, frL⟩
    have hGt := bLi_z hLi
    have hnt : n < bnn t := hLi.2.1
    have hn12 : bnn t ≤ 12 := hLi.1.2.1.2
    refine And.intro ⟨(by omega), (zRb rfl)⟩ ⟨fun h43 => ?_, fun h43 => ?_⟩
    · refine And.intro (by omega) ⟨fun h93 => ?_, fun h93 => ?_⟩
      · refine And.intro (zA_98 hS) (zrdR (v := some 82) (zR_98_0 hR) ?_)
        refine And.intro (zA_82 hS) (zrdR (v := some 90) (zR_82_11 hR) ?_)
        refine And.intro (zA_90 hS) ⟨_, sn_A_set.up (by decide), ?_⟩
        refine ⟨_, 12, (bnn t), (bN t), n, 2, (n : Int), (2 : Int), (1 : Int), rfl, hS, hR, (zRw_90 hR hS), hB.2.2.2.2.1, ⟨rfl, hnt⟩, (by omega), (by omega), ?_⟩
        intro I117o p117hT2 p117bfr
        refine And.intro (zA_98 hS) (zrdR (v := some 82) (zR_98_0 hR) ?_)
        refine And.intro (zA_82 hS) (zrdR (v := some 90) (zR_82_11 hR) ?_)
        refine ⟨_, (zWi (by omega)), ?_⟩
        refine And.intro (zA_90 hS) ⟨_, sn_A_set.up (by decide), ?_⟩
        refine ⟨_, 12, (bnn t), (up2z (bN t) n 2 1), n, 3, (n : Int), (3 : Int), (a : Int), rfl, hS, hR, (zRw_90 hR hS), p117hT2, ⟨rfl, hnt⟩, (by omega), (by unfold r32; omega), ?_⟩
        intro I131o p131hT2 p131bfr
        refine And.intro (zA_98 hS) (zrdR (v := some 82) (zR_98_0 hR) ?_)
        refine And.intro (zA_82 hS) (zrdR (v := some 90) (zR_82_11 hR) ?_)
        refine And.intro (zA_90 hS) ⟨_, sn_A_set.up (by decide), ?_⟩
        refine ⟨_, 12, (bnn t), (up2z (up2z (bN t) n 2 1) n 3 a), n, 5, (n : Int), (5 : Int), (0 : Int), rfl, hS, hR, (zRw_90 hR hS), p131hT2, ⟨rfl, hnt⟩, (by omega), (by omega), ?_⟩
        intro I144o p144hT2 p144bfr
        refine hQ _ _ ?_ (fun c j h0 h1 h2 h3 h4 h5 h6 h7 h8 => ((p144bfr c j (by omega)).trans ((p131bfr c j (by omega)).trans ((p117bfr c j (by omega)).trans ((fr c j (by omega) (by omega) (by omega) (by omega) (by omega) (by omega) (by omega) (by omega) (by omega)).trans rfl))))) (fun c j h0 => ((frL c j (by omega)).trans rfl))
        · first
          | (have hl := hst.resolve_left (fun w => by have := w.1; omega)
             unfold bLd
             rw [hl.2, if_pos rfl]
             exact p101hBA2)
          | (have hl := hst.resolve_right (fun w => by have := w.1; omega)
             have e : bLr s n = (t, a, 0) := hl.2.2.trans (by
               first
               | exact bLp_a (p53hv.resolve_right (fun w => by have := w.1; omega)).2
               | (rw [show 5 - k = 0 by omega]
                  rfl))
             unfold bLd
             rw [e, if_neg (fun q => absurd (show (0 : Int) = 1 from q) (by decide))]
             exact zBA_N hB p144hT2 (fun c j q => (p144bfr c j (by omega)).trans ((p131bfr c j (by omega)).trans (p117bfr c j (by omega)))) (fun c j q => rfl))
      · refine And.intro (zA_98 hS) (zrdR (v := some 82) (zR_98_0 hR) ?_)
        refine And.intro (zA_82 hS) ⟨_, sn_A_letGo.up (by decide), ?_⟩
        refine ⟨b, t, n, (n : Int), rfl, hS, hR, hB, ⟨rfl, hnt⟩, (bLi_w hLi hnt), ?_⟩
        intro I101o p101hBA2 p101bfr
        refine hQ _ _ ?_ (fun c j h0 h1 h2 h3 h4 h5 h6 h7 h8 => ((p101bfr c j (by omega) (by omega) (by omega)).trans ((fr c j (by omega) (by omega) (by omega) (by omega) (by omega) (by omega) (by omega) (by omega) (by omega)).trans rfl))) (fun c j h0 => ((frL c j (by omega)).trans rfl))
        · first
          | (have hl := hst.resolve_left (fun w => by have := w.1; omega)
             unfold bLd
             rw [hl.2, if_pos rfl]
             exact p101hBA2)
          | (have hl := hst.resolve_right (fun w => by have := w.1; omega)
             have e : bLr s n = (t, a, 0) := hl.2.2.trans (by
               first
               | exact bLp_a (p53hv.resolve_right (fun w => by have := w.1; omega)).2
               | (rw [show 5 - k = 0 by omega]
                  rfl))
             unfold bLd
             rw [e, if_neg (fun q => absurd (show (0 : Int) = 1 from q) (by decide))]
             exact zBA_N hB p144hT2 (fun c j q => (p144bfr c j (by omega)).trans ((p131bfr c j (by omega)).trans (p117bfr c j (by omega)))) (fun c j q => rfl))
    · refine And.intro (by omega) ⟨fun h48 => ?_, fun h48 => ?_⟩
      · refine And.intro (by omega) ⟨(fun h93 => False.elim (by omega)), fun h93 => ?_⟩
        refine And.intro (zA_98 hS) (zrdR (v := some 82) (zR_98_0 hR) ?_)
        refine And.intro (zA_82 hS) ⟨_, sn_A_letGo.up (by decide), ?_⟩
        refine ⟨b, t, n, (n : Int), rfl, hS, hR, hB, ⟨rfl, hnt⟩, (bLi_w hLi hnt), ?_⟩
        intro I101o p101hBA2 p101bfr
        refine hQ _ _ ?_ (fun c j h0 h1 h2 h3 h4 h5 h6 h7 h8 => ((p101bfr c j (by omega) (by omega) (by omega)).trans ((fr c j (by omega) (by omega) (by omega) (by omega) (by omega) (by omega) (by omega) (by omega) (by omega)).trans rfl))) (fun c j h0 => ((frL c j (by omega)).trans rfl))
        · first
          | (have hl := hst.resolve_left (fun w => by have := w.1; omega)
             unfold bLd
             rw [hl.2, if_pos rfl]
             exact p101hBA2)
          | (have hl := hst.resolve_right (fun w => by have := w.1; omega)
             have e : bLr s n = (t, a, 0) := hl.2.2.trans (by
               first
               | exact bLp_a (p53hv.resolve_right (fun w => by have := w.1; omega)).2
               | (rw [show 5 - k = 0 by omega]
                  rfl))
             unfold bLd
             rw [e, if_neg (fun q => absurd (show (0 : Int) = 1 from q) (by decide))]
             exact zBA_N hB p144hT2 (fun c j q => (p144bfr c j (by omega)).trans ((p131bfr c j (by omega)).trans (p117bfr c j (by omega)))) (fun c j q => rfl))
      · refine And.intro (zA_98 hS) ⟨_, sn_A_has.up (by decide), ?_⟩
        refine ⟨b, t, (n : Int), (bTn t n), rfl, hS, hR, hB, hGt, (by omega), (bLi_p hLi), (hst.resolve_right (fun w => by have := w.1; omega)).2.1, ?_⟩
        intro v53o p53hv
        refine And.intro (by omega) ⟨fun h56 => ?_, fun h56 => ?_⟩
        · refine And.intro (by omega) ⟨fun h93 => ?_, (fun h93 => False.elim (by omega))⟩
          refine And.intro (zA_98 hS) (zrdR (v := some 82) (zR_98_0 hR) ?_)
          refine And.intro (zA_82 hS) (zrdR (v := some 90) (zR_82_11 hR) ?_)
          refine And.intro (zA_90 hS) ⟨_, sn_A_set.up (by decide), ?_⟩
          refine ⟨_, 12, (bnn t), (bN t), n, 2, (n : Int), (2 : Int), (1 : Int), rfl, hS, hR, (zRw_90 hR hS), hB.2.2.2.2.1, ⟨rfl, hnt⟩, (by omega), (by omega), ?_⟩
          intro I117o p117hT2 p117bfr
          refine And.intro (zA_98 hS) (zrdR (v := some 82) (zR_98_0 hR) ?_)
          refine And.intro (zA_82 hS) (zrdR (v := some 90) (zR_82_11 hR) ?_)
          refine ⟨_, (zWi (by omega)), ?_⟩
          refine And.intro (zA_90 hS) ⟨_, sn_A_set.up (by decide), ?_⟩
          refine ⟨_, 12, (bnn t), (up2z (bN t) n 2 1), n, 3, (n : Int), (3 : Int), (a : Int), rfl, hS, hR, (zRw_90 hR hS), p117hT2, ⟨rfl, hnt⟩, (by omega), (by unfold r32; omega), ?_⟩
          intro I131o p131hT2 p131bfr
          refine And.intro (zA_98 hS) (zrdR (v := some 82) (zR_98_0 hR) ?_)
          refine And.intro (zA_82 hS) (zrdR (v := some 90) (zR_82_11 hR) ?_)
          refine And.intro (zA_90 hS) ⟨_, sn_A_set.up (by decide), ?_⟩
          refine ⟨_, 12, (bnn t), (up2z (up2z (bN t) n 2 1) n 3 a), n, 5, (n : Int), (5 : Int), (0 : Int), rfl, hS, hR, (zRw_90 hR hS), p131hT2, ⟨rfl, hnt⟩, (by omega), (by omega), ?_⟩
          intro I144o p144hT2 p144bfr
          refine hQ _ _ ?_ (fun c j h0 h1 h2 h3 h4 h5 h6 h7 h8 => ((p144bfr c j (by omega)).trans ((p131bfr c j (by omega)).trans ((p117bfr c j (by omega)).trans ((fr c j (by omega) (by omega) (by omega) (by omega) (by omega) (by omega) (by omega) (by omega) (by omega)).trans rfl))))) (fun c j h0 => ((frL c j (by omega)).trans rfl))
          · first
            | (have hl := hst.resolve_left (fun w => by have := w.1; omega)
               unfold bLd
               rw [hl.2, if_pos rfl]
               exact p101hBA2)
            | (have hl := hst.resolve_right (fun w => by have := w.1; omega)
               have e : bLr s n = (t, a, 0) := hl.2.2.trans (by
                 first
                 | exact bLp_a (p53hv.resolve_right (fun w => by have := w.1; omega)).2
                 | (rw [show 5 - k = 0 by omega]
                    rfl))
               unfold bLd
               rw [e, if_neg (fun q => absurd (show (0 : Int) = 1 from q) (by decide))]
               exact zBA_N hB p144hT2 (fun c j q => (p144bfr c j (by omega)).trans ((p131bfr c j (by omega)).trans (p117bfr c j (by omega)))) (fun c j q => rfl))
        · refine And.intro (zA_98 hS) ⟨_, sn_A_nxt.up (by decide), ?_⟩
          refine ⟨b, t, n, (n : Int), (hb_ + 1), hb_, (rb + k), rfl, hS, hR, hB, ⟨rfl, hnt⟩, hLi, (by omega), rfl, (by omega), (hst.resolve_right (fun w => by have := w.1; omega)).2.1, ?_⟩
          intro v61o I61o L61o p61hv p61bhv2 p61bbhBA2 p61bbbhtr2 p61bbbbfr p61bbbbbfrL
          refine And.intro ⟨(by omega), (zRb rfl)⟩ ⟨fun h69 => ?_, fun h69 => ?_⟩
          · refine And.intro (by omega) ?_
            refine ⟨(2, (6 - (k + 1)), 0), zlt6 (by omega), [some (zvr (98)), some (zvi (n)), some (zvl ((a + v61o))), none, some (zvi ((0 : Int))), some (zvi ((k + 1))), none], ⟨rfl, rfl, rfl, rfl, rfl, rfl⟩, (k + 1), (bNx t n).1, (a + v61o), 0, rfl, rfl, rfl, rfl, rfl, (by omega), (by omega), p61bbhBA2, (bNx_li hLi), (by omega), ?_, (fun c j h0 h1 h2 h3 h4 h5 h6 h7 h8 => ((p61bbbbfr c j (by omega) (by omega) (by omega) (by omega) (by omega) (by omega) (by omega) (by omega) (by omega)).trans ((fr c j (by omega) (by omega) (by omega) (by omega) (by omega) (by omega) (by omega) (by omega) (by omega)).trans rfl))), (fun c j h0 => ((p61bbbbbfrL c j (by omega)).trans ((frL c j (by omega)).trans rfl)))⟩
            · have hl := hst.resolve_right (fun w => by have := w.1; omega)
              have hna := (p53hv.resolve_left (fun w => by have := w.1; omega)).2
              first
              | exact Or.inr ⟨rfl, by rw [hl.2.2, show 5 - k = (4 - k) + 1 by omega, bLp_s hna (by rw [← p61hv]; omega), show a - 1 = a + v61o by omega]⟩
              | exact Or.inl ⟨rfl, p61bbbhtr2, by rw [hl.2.2, show 5 - k = (5 - (k + 1)) + 1 by omega, bLp_k hna (by rw [← p61hv]; omega), ← p61hv]⟩
          · refine And.intro (by omega) ?_
            refine ⟨(2, (6 - (k + 1)), 0), zlt6 (by omega), [some (zvr (98)), some (zvi (n)), some (zvl ((a + v61o))), none, some (zvi ((1 : Int))), some (zvi ((k + 1))), none], ⟨rfl, rfl, rfl, rfl, rfl, rfl⟩, (k + 1), (bNx t n).1, (a + v61o), 1, rfl, rfl, rfl, rfl, rfl, (by omega), (by omega), p61bbhBA2, (bNx_li hLi), (by omega), ?_, (fun c j h0 h1 h2 h3 h4 h5 h6 h7 h8 => ((p61bbbbfr c j (by omega) (by omega) (by omega) (by omega) (by omega) (by omega) (by omega) (by omega) (by omega)).trans ((fr c j (by omega) (by omega) (by omega) (by omega) (by omega) (by omega) (by omega) (by omega) (by omega)).trans rfl))), (fun c j h0 => ((p61bbbbbfrL c j (by omega)).trans ((frL c j (by omega)).trans rfl)))⟩
            · have hl := hst.resolve_right (fun w => by have := w.1; omega)
              have hna := (p53hv.resolve_left (fun w => by have := w.1; omega)).2
              first
              | exact Or.inr ⟨rfl, by rw [hl.2.2, show 5 - k = (4 - k) + 1 by omega, bLp_s hna (by rw [← p61hv]; omega), show a - 1 = a + v61o by omega]⟩
              | exact Or.inl ⟨rfl, p61bbbhtr2, by rw [hl.2.2, show 5 - k = (5 - (k + 1)) + 1 by omega, bLp_k hna (by rw [← p61hv]; omega), ← p61hv]⟩)
