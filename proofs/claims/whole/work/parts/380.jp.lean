/-! jp -/
theorem zBA_ho {b : Nat} {s : BdS} {I I' L L' : ZI} {f : Nat → Int} (h : zBA b s I L) (hN : ∀ c : Nat, c < 1024 → I' 86 c = f c) (hf : ∀ c j, 82 ≤ c ∧ c ≤ 97 ∧ c ≠ 86 → I' c j = I c j) (hl : ∀ c j, c = 82 → L' c j = L c j) : zBA b (bs_ho s f) I' L' := by
  obtain ⟨⟨q1, q2, q3, q4, q5⟩, h2, h3, h4, h5, h6, h7, h8⟩ := h
  exact ⟨⟨(hf 82 0 (by omega)).trans q1, (hf 82 1 (by omega)).trans q2, (hf 82 2 (by omega)).trans q3, (hf 82 3 (by omega)).trans q4, (hl 82 4 rfl).trans q5⟩, fun c x a b => (hf 83 _ (by omega)).trans (h2 c x a b), fun c hc => ⟨(hf 84 c (by omega)).trans (h3 c hc).1, (hf 85 c (by omega)).trans (h3 c hc).2.1, hN c hc, (hf 87 c (by omega)).trans (h3 c hc).2.2.2⟩,
    zRT_fr h4 (fun c j q => hf c j (by omega)), zRT_fr h5 (fun c j q => hf c j (by omega)), fun n hn => ⟨(hf 93 n (by omega)).trans (h6 n hn).1, fun k hk => (hf 92 _ (by omega)).trans ((h6 n hn).2 k hk)⟩, fun l hl => ⟨(hf 94 l (by omega)).trans (h7 l hl).1, (hf 95 l (by omega)).trans (h7 l hl).2.1, (hf 96 l (by omega)).trans (h7 l hl).2.2⟩, fun x hx => (hf 97 x (by omega)).trans (h8 x hx)⟩
def T_A_join : ZT := fun args I L R S Q => ∃ (b : Nat) (s : BdS) (n : Nat) (x : Int) (c : Nat) (y : Int) (rr : Int) (tr : Nat → Int) (hb_ : Nat), args = [zvr 98, zvi x, zvi y] ∧ (zSh S) ∧ (zRs R) ∧ (zBA b s I L) ∧ (bGz s) ∧ (x = n ∧ n < bnn s) ∧ (y = c ∧ c < 1024) ∧ (0 ≤ bDn s n rr c) ∧ (bNst s n rr tr c) ∧ ((∀ d : Nat, d < bK s → I 99 d = -1 ∨ (0 ≤ bDn s n rr d ∧ bDn s n rr d ≤ I 99 d ∧ I 99 d ≤ (hb_ + 352 : Int) * 1025))) ∧ ((∀ d : Nat, 0 ≤ bDn s n rr d → bNst s n rr tr d → I 99 d = bDn s n rr d)) ∧ (∀ d : Nat, d < bK s → I 100 d = bTl s n rr d) ∧ (∀ d : Nat, d < bK s → bTl s n rr d ≤ hb_ + 300) ∧ (∀ j : Nat, j < 1024 → I 101 j = zite (bTr s n j) 1 0) ∧ (bwl s n = zct (bTr s n) (bK s)) ∧ (∀ m, m < bnn s → bwl s m ≤ 1024) ∧ (∀ k : Nat, k < bwl s n → bwy s n k < 1024) ∧ (∀ c, c < 1024 → -1 ≤ bho s c ∧ bho s c < bnn s) ∧ ((∀ c, c < 1024 → bhi s c ≤ hb_) ∧ hb_ ≤ 900000) ∧ (∀ m, m < bnn s → 0 ≤ bN s m 4 ∧ bN s m 4 ≤ 2000000000) ∧ (∀ m, m < bnn s → m ≠ n → bWok s m) ∧ ∀ (I' : ZI), (zBA b (bJn s n rr c) I' L) → (∀ j : Nat, j < 1024 → I' 101 j = zite (bTr (bJn s n rr c) n j) 1 0) → (∀ c j : Nat, ¬ c = 85 → ¬ c = 86 → ¬ c = 91 → ¬ c = 92 → ¬ c = 93 → ¬ c = 101 → I' c j = I c j) → Q none I' L R S
theorem sn_A_join : ZSnd 4 6 9 T_A_join := ZSnd.loops (zT6_9 3) (by
  rintro args I L R S Q hz ⟨b, s, n, x, c, y, rr, tr, hb_, rfl, hS, hR, hBA, hGz, hxn, hyc, hD, hN, hd2, hd3, htl, hbt, htr, hct, hwl, hwk, hho, hhb, hrp, hW, hQ⟩
  obtain ⟨⟨hb0, hbw, hbh, hbd, hbs⟩, hnb, hcl, hPT, hNT, hwy, hco, hnd⟩ := id hBA
  obtain ⟨hP1, hP2, hP3, hP4⟩ := id hPT
  obtain ⟨hN1, hN2, hN3, hN4⟩ := id hNT
  obtain ⟨⟨⟨gW1, gW2⟩, ⟨gH1, gH2⟩, ⟨gD1, gD2⟩, gB9⟩, ⟨gnp, gnn⟩, gco⟩ := id hGz
  have hKe : bK s = bW s * bH s * bD s := rfl
  have hPl := bPl_sp gB9 hD
  have hLe := bPl_le gB9 hD
  have hno := hPl.2
  have hf9 : ∀ j, j ≤ bPl s n rr c → bPth s n rr c j < bK s := fun j hj => (bPth_sp gB9 hD j (fun i hi => hno i (by omega))).1
  refine ⟨[15, 69], fun nM tM lsM stM I1 L1 R1 S1 => match tM with
      | 15 => ∃ (k : Nat), nM = (3, (1025 - k), 0) ∧ lsM = [some (zvr (98)), some (zvi (n)), some (zvi (c)), some (zvi (bPth s n rr c k)), some (zvi (bwl s n)), some (zvi (k))] ∧ stM = [] ∧ L1 = L ∧ R1 = R ∧ S1 = S ∧ (k ≤ bPl s n rr c) ∧ (zBA b (bWx s n (bPth s n rr c) k) I1 L1) ∧ (∀ c j : Nat, ¬ c = 92 → ¬ c = 93 → I1 c j = I c j)
      | 69 => ∃ (m : Nat), nM = (2, (1025 - m), 0) ∧ lsM = [some (zvr (98)), some (zvi (n)), some (zvi (c)), none, some (zvi (bwl s n)), some (zvi (bwl s n + m))] ∧ stM = [] ∧ L1 = L ∧ R1 = R ∧ S1 = S ∧ (m ≤ bPl s n rr c) ∧ (zBA b (bJ2 s n (bPth s n rr c) (bPl s n rr c) m) I1 L1) ∧ (∀ j : Nat, j < 1024 → I1 101 j = zite (bTp s n (bPth s n rr c) m j) 1 0) ∧ (∀ c j : Nat, ¬ c = 85 → ¬ c = 86 → ¬ c = 91 → ¬ c = 92 → ¬ c = 93 → ¬ c = 101 → I1 c j = I c j)
      | _ => False, rfl, ?_, ⟨?_, ?_, True.intro⟩⟩
  · refine And.intro (zA_98 hS) (zrdR (v := some 82) (zR_98_0 hR) ?_)
    refine And.intro (zA_82 hS) (Exists.intro _ (And.intro (zinl_ok (zT0_27 2)) (And.intro rfl ?_)))
    refine And.intro (by omega) ⟨(fun h1_7 => False.elim (by omega)), fun h1_7 => ?_⟩
    refine And.intro (zA_82 hS) (zrdR (v := some 90) (zR_82_11 hR) ?_)
    refine And.intro (zA_90 hS) (zrd (v := (bnn s)) hN2 ?_)
    refine And.intro ⟨(by omega), (by omega)⟩ ⟨(fun h12_7 => False.elim (by omega)), fun h12_7 => ?_⟩
    refine And.intro (zA_82 hS) (zrdR (v := some 93) (zR_82_13 hR) ?_)
    refine And.intro (zP_93 hS (by omega) (by omega)) (fun v20_7 e20_7 r20_7 => ?_)
    have f20_7 : v20_7 = bwl s n := (e20_7.trans ((congrArg (I 93) (by omega)).trans (hwy n (by omega)).1))
    refine ⟨(3, (1025 - (0 : Nat)), 0), [some (zvr (98)), some (zvi (n)), some (zvi (c)), some (zvi (bPth s n rr c (0 : Nat))), some (zvi (bwl s n)), some (zvi ((0 : Nat)))], ⟨rfl, (congrArg (fun z => some (zvi z)) (by omega)), (congrArg (fun z => some (zvi z)) (by omega)), (congrArg (fun z => some (zvi z)) (by show y = _; exact hyc.1)), (congrArg (fun z => some (zvi z)) (by omega)), rfl, rfl⟩, 0, rfl, rfl, rfl, rfl, rfl, rfl, (by omega), hBA, (fun c j h0 h1 => rfl)⟩
  · rintro nM lsM stM I1 L1 R1 S1 hz1 ⟨k, rfl, rfl, rfl, rfl, rfl, rfl, hk, hB1, fr⟩
    have hfk := hf9 k hk
    have hwx := bWx_w s n (bPth s n rr c) k
    have hpx := bWx_p s n (bPth s n rr c) k
    have hpk := bPth_sp gB9 hD k (fun j hj => hno j (by omega))
    have hDk : bDn s n rr (bPth s n rr c k) ≤ bDn s n rr c := by
      rcases Nat.eq_zero_or_pos k with e | e
      · rw [e]; exact Int.le_refl _
      · have w := (hpk.2.2 0 e).1
        have w2 : bPth s n rr c 0 = c := rfl
        rw [w2] at w
        omega
    refine And.intro ⟨(by omega), (zRb rfl)⟩ ⟨(fun h20 => False.elim (by omega)), fun h20 => ?_⟩
    refine And.intro ⟨(by omega), (zRb rfl)⟩ ⟨(fun h25 => False.elim (by omega)), fun h25 => ?_⟩
    refine And.intro (zA_98 hS) (zrdR (v := some 101) (zR_98_3 hR) ?_)
    refine And.intro (Or.inr (zP_101 hS (by omega) (by omega))) (fun v33 e33 r33 => ?_)
    have f33 : v33 = zite (bTr s n (bPth s n rr c k)) 1 0 := (e33.trans ((congrArg (I1 101) (by omega)).trans ((fr 101 _ (by omega) (by omega)).trans (htr (bPth s n rr c k) (by omega)))))
    refine And.intro r33 ⟨fun h34 => ?_, fun h34 => ?_⟩
    · have t34 : bTr s n (bPth s n rr c k) := (Classical.byContradiction (fun q => by have e : zite (bTr s n (bPth s n rr c k)) (1 : Int) 0 = 0 := (zite_f q); omega))
      have t34b : k = bPl s n rr c := (by rcases Nat.lt_or_ge k (bPl s n rr c) with q | q; exact absurd t34 (hno k q); omega)
      refine And.intro (zA_98 hS) ⟨_, sn_A_rip.up (by decide), ?_⟩
      refine ⟨b, (bWx s n (bPth s n rr c) k), n, (n : Int), (bwl s n), ((bwl s n) : Int), (bPth s n rr c), hb_, rfl, hS, hR, hB1, (bGz_x hGz hpx), ⟨rfl, by rw [hpx.2.2.2.2.2.2.2.2.1]; omega⟩, ⟨rfl, by rw [hwx.1]; omega⟩, (by rw [hwx.1]; omega), (fun j hj => (hwx.2.2.1 j (by rw [hwx.1] at hj; omega)).symm), (fun q hq => by rw [hwx.1] at hq; rcases Nat.lt_or_ge q (bwl s n) with e | e; rw [hwx.2.1 q e]; exact hwk q e; rw [show q = bwl s n + (q - bwl s n) by omega, hwx.2.2.1 _ (by omega)]; have := hf9 (q - bwl s n) (by omega); omega), (by rw [hpx.2.2.1, hpx.2.2.2.2.2.2.2.2.1]; exact hho), (by rw [hpx.2.2.2.2.1]; exact hhb), (by rw [hpx.2.2.2.2.2.2.2.2.2.1, hpx.2.2.2.2.2.2.2.2.1]; exact hrp), (fun m hm hne => bWx_ok (hW m (by rw [hpx.2.2.2.2.2.2.2.2.1] at hm; exact hm) hne) hne), ?_⟩
      intro I62o p62hBA2 p62bfr
      refine ⟨(2, (1025 - (0 : Nat)), 0), zlt6 (by omega), [some (zvr (98)), some (zvi (n)), some (zvi (c)), none, some (zvi (bwl s n)), some (zvi (bwl s n + (0 : Nat)))], ⟨rfl, rfl, rfl, rfl, (congrArg (fun z => some (zvi z)) (by omega)), rfl⟩, 0, rfl, rfl, rfl, rfl, rfl, rfl, (by omega), ?_, (fun j hj => by rw [bTp_0]; exact (p62bfr 101 j (by omega) (by omega) (by omega) (by omega)).trans ((fr 101 j (by omega) (by omega)).trans (htr j hj))), (fun c j h0 h1 h2 h3 h4 h5 => ((p62bfr c j (by omega) (by omega) (by omega) (by omega)).trans ((fr c j (by omega) (by omega)).trans rfl)))⟩
      · have e0 : bJ2 s n (bPth s n rr c) (bPl s n rr c) 0 = bJ1 s n (bPth s n rr c) (bPl s n rr c) := by
          unfold bJ2
          refine Eq.trans (congrArg (bs_ho _) (funext (fun q => zite_f (fun w => ?_)))) rfl
          obtain ⟨j, j1, j2⟩ := w
          exact absurd j1 (Nat.not_lt_zero j)
        rw [e0, ← t34b]
        have w := p62hBA2
        rw [hwx.1, show bwl s n + k - bwl s n = k by omega] at w
        exact w
    · have t34 : ¬ bTr s n (bPth s n rr c k) := (fun q => by have e : zite (bTr s n (bPth s n rr c k)) (1 : Int) 0 = 1 := (zite_t q); omega)
      have t34b : k + 1 ≤ bPl s n rr c := (by rcases Nat.lt_or_ge k (bPl s n rr c) with q | q; exact q; exfalso; exact t34 (by rw [show k = bPl s n rr c by omega]; exact hPl.1))
      refine And.intro (zA_98 hS) (zrdR (v := some 82) (zR_98_0 hR) ?_)
      refine And.intro (zA_82 hS) ⟨_, sn_A_addW.up (by decide), ?_⟩
      refine ⟨b, (bWx s n (bPth s n rr c) k), n, (n : Int), (bPth s n rr c k), ((bPth s n rr c k) : Int), rfl, hS, hR, hB1, ⟨rfl, by rw [hpx.2.2.2.2.2.2.2.2.1]; omega⟩, (by omega), (by rw [hwx.1]; omega), (fun m hm => by rw [hpx.2.2.2.2.2.2.2.2.1] at hm; by_cases e : m = n; rw [e, hwx.1]; omega; rw [(hwx.2.2.2 m e).1]; exact hwl m hm), ?_⟩
      intro I43o p43hBA2 p43bfr
      refine And.intro (zA_98 hS) ⟨_, sn_A_bkF.up (by decide), ?_⟩
      refine ⟨b, (bWx s n (bPth s n rr c) (k + 1)), s, n, rr, tr, hb_, ((bPth s n rr c k) : Int), (bPth s n rr c k), rfl, hS, hR, p43hBA2, (bGz_x hGz (bWx_p s n (bPth s n rr c) (k + 1))), ⟨hpx.1, hpx.2.2.2.2.2.2.2.2.2.2.1⟩, rfl, hpk.2.1, (fun q q1 q2 => Int.le_trans hDk (hN q q1 q2)), t34, (by rw [show I43o 99 = I 99 from (funext (fun j => (p43bfr 99 j (by omega) (by omega)).trans (fr 99 j (by omega) (by omega))))]; exact hd2), (by rw [show I43o 99 = I 99 from (funext (fun j => (p43bfr 99 j (by omega) (by omega)).trans (fr 99 j (by omega) (by omega))))]; exact hd3), (by rw [show I43o 100 = I 100 from (funext (fun j => (p43bfr 100 j (by omega) (by omega)).trans (fr 100 j (by omega) (by omega))))]; exact htl), ⟨by omega, hbt⟩, ?_⟩
      intro v48o p48hv p48bhv2
      refine ⟨(3, (1025 - (k + 1)), 0), zlt6 (by omega), [some (zvr (98)), some (zvi (n)), some (zvi (c)), some (zvi (bPth s n rr c (k + 1))), some (zvi (bwl s n)), some (zvi ((k + 1)))], ⟨rfl, rfl, rfl, (congrArg (fun z => some (zvi z)) (p48hv.trans ((bPth_sp gB9 hD (k + 1) (fun j hj => hno j (by omega))).2.2 k (by omega)).2)), rfl, rfl, rfl⟩, (k + 1), rfl, rfl, rfl, rfl, rfl, rfl, (by omega), p43hBA2, (fun c j h0 h1 => ((p43bfr c j (by omega) (by omega)).trans ((fr c j (by omega) (by omega)).trans rfl)))⟩
  · rintro nM lsM stM I1 L1 R1 S1 hz1 ⟨m, rfl, rfl, rfl, rfl, rfl, rfl, hm, hB2, ht2, fr⟩
    have hj1 := (bJ1_p (k := bPl s n rr c) (f := bPth s n rr c) gnn hxn.2 hho (fun j hj => by have := hf9 j (by omega); omega))
    refine And.intro (zA_98 hS) (zrdR (v := some 82) (zR_98_0 hR) ?_)
    refine And.intro (zA_82 hS) (Exists.intro _ (And.intro (zinl_ok (zT0_27 2)) (And.intro rfl ?_)))
    refine And.intro (by omega) ⟨(fun h1_76 => False.elim (by omega)), fun h1_76 => ?_⟩
    refine And.intro (zA_82 hS) (zrdR (v := some 90) (zR_82_11 hR) ?_)
    refine And.intro (zA_90 hS) (zrd (v := (bnn s)) ((fr 90 2 (by omega) (by omega) (by omega) (by omega) (by omega) (by omega)).trans hN2) ?_)
    refine And.intro ⟨(by omega), (by omega)⟩ ⟨(fun h12_76 => False.elim (by omega)), fun h12_76 => ?_⟩
    refine And.intro (zA_82 hS) (zrdR (v := some 93) (zR_82_13 hR) ?_)
    refine And.intro (zP_93 hS (by omega) (by omega)) (fun v20_76 e20_76 r20_76 => ?_)
    have f20_76 : v20_76 = bwl s n + bPl s n rr c := (e20_76.trans ((congrArg (I1 93) (by omega)).trans ((hB2.2.2.2.2.2.1 n (by show n < bnn (bJ1 _ _ _ _); rw [hj1.2.1]; omega)).1.trans (by show ((bwl (bJ1 _ _ _ _) n : Nat) : Int) = _; rw [hj1.2.2.2.2.2.2.1]; omega))))
    refine And.intro ⟨(by omega), r20_76⟩ ⟨fun h79 => ?_, fun h79 => ?_⟩
    · refine hQ _ ?_ ?_ (fun c j h0 h1 h2 h3 h4 h5 => ((fr c j (by omega) (by omega) (by omega) (by omega) (by omega) (by omega)).trans rfl))
      · obtain rfl : m = bPl s n rr c := (by omega)
        exact hB2
      · intro j hj
        obtain rfl : m = bPl s n rr c := (by omega)
        rw [show bTr (bJn s n rr c) n = bTp s n (bPth s n rr c) (bPl s n rr c) from hj1.2.2.2.2.2.2.2.2.2]
        exact ht2 j hj
    · refine And.intro (zA_98 hS) (zrdR (v := some 101) (zR_98_3 hR) ?_)
      refine And.intro (zA_98 hS) (zrdR (v := some 82) (zR_98_0 hR) ?_)
      refine And.intro (zA_82 hS) (Exists.intro _ (And.intro (zinl_ok (zT0_26 2)) (And.intro rfl ?_)))
      refine And.intro (by omega) ⟨(fun h1_93 => False.elim (by omega)), fun h1_93 => ?_⟩
      refine And.intro (zA_82 hS) (Exists.intro _ (And.intro (zinl_ok (zT0_27 1)) (And.intro rfl ?_)))
      refine And.intro (by omega) ⟨(fun h1_93_7 => False.elim (by omega)), fun h1_93_7 => ?_⟩
      refine And.intro (zA_82 hS) (zrdR (v := some 90) (zR_82_11 hR) ?_)
      refine And.intro (zA_90 hS) (zrd (v := (bnn s)) ((fr 90 2 (by omega) (by omega) (by omega) (by omega) (by omega) (by omega)).trans hN2) ?_)
      refine And.intro ⟨(by omega), (by omega)⟩ ⟨(fun h12_93_7 => False.elim (by omega)), fun h12_93_7 => ?_⟩
      refine And.intro (zA_82 hS) (zrdR (v := some 93) (zR_82_13 hR) ?_)
      refine And.intro (zP_93 hS (by omega) (by omega)) (fun v20_93_7 e20_93_7 r20_93_7 => ?_)
      have f20_93_7 : v20_93_7 = bwl s n + bPl s n rr c := (e20_93_7.trans ((congrArg (I1 93) (by omega)).trans ((hB2.2.2.2.2.2.1 n (by show n < bnn (bJ1 _ _ _ _); rw [hj1.2.1]; omega)).1.trans (by show ((bwl (bJ1 _ _ _ _) n : Nat) : Int) = _; rw [hj1.2.2.2.2.2.2.1]; omega))))
      refine And.intro ⟨(by omega), r20_93_7⟩ ⟨(fun h10_93 => False.elim (by omega)), fun h10_93 => ?_⟩
      refine And.intro (zA_82 hS) (zrdR (v := some 92) (zR_82_12 hR) ?_)
      refine And.intro (zP_92 hS (by omega) (by omega)) (fun v24_93 e24_93 r24_93 => ?_)
      have f24_93 : v24_93 = bPth s n rr c m := (e24_93.trans ((congrArg (I1 92) (by omega)).trans (((hB2.2.2.2.2.2.1 n (by show n < bnn (bJ1 _ _ _ _); rw [hj1.2.1]; omega)).2 (bwl s n + m) (by show _ < bwl (bJ1 _ _ _ _) n; rw [hj1.2.2.2.2.2.2.1]; omega)).trans (by show ((bwy (bJ1 _ _ _ _) n _ : Nat) : Int) = _; rw [hj1.2.2.2.2.2.2.2.2.1 m (by omega)]))))
      have f24_93b : 0 ≤ v24_93 ∧ v24_93 ≤ 1023 := (by have := hf9 m (by omega); omega)
      refine And.intro ⟨(zx0 rfl), Or.inr ⟨(zP_101 hS (by omega) (by omega)), (Or.inr rfl)⟩⟩ ?_
      refine And.intro (zA_98 hS) (zrdR (v := some 82) (zR_98_0 hR) ?_)
      refine And.intro (zA_82 hS) (zrdR (v := some 86) (zR_82_8 hR) ?_)
      refine And.intro (zA_98 hS) (zrdR (v := some 82) (zR_98_0 hR) ?_)
      refine And.intro (zA_82 hS) (Exists.intro _ (And.intro (zinl_ok (zT0_26 2)) (And.intro rfl ?_)))
      refine And.intro (by omega) ⟨(fun h1_112 => False.elim (by omega)), fun h1_112 => ?_⟩
      refine And.intro (zA_82 hS) (Exists.intro _ (And.intro (zinl_ok (zT0_27 1)) (And.intro rfl ?_)))
      refine And.intro (by omega) ⟨(fun h1_112_7 => False.elim (by omega)), fun h1_112_7 => ?_⟩
      refine And.intro (zA_82 hS) (zrdR (v := some 90) (zR_82_11 hR) ?_)
      refine And.intro (zA_90 hS) (zrd (v := (bnn s)) ((fr 90 2 (by omega) (by omega) (by omega) (by omega) (by omega) (by omega)).trans hN2) ?_)
      refine And.intro ⟨(by omega), (by omega)⟩ ⟨(fun h12_112_7 => False.elim (by omega)), fun h12_112_7 => ?_⟩
      refine And.intro (zA_82 hS) (zrdR (v := some 93) (zR_82_13 hR) ?_)
      refine And.intro (zP_93 hS (by omega) (by omega)) (fun v20_112_7 e20_112_7 r20_112_7 => ?_)
      have f20_112_7 : v20_112_7 = bwl s n + bPl s n rr c := (e20_112_7.trans ((congrArg (xu I1 101 _ 1 93) (by omega)).trans ((zxu (by decide) rfl).trans ((hB2.2.2.2.2.2.1 n (by show n < bnn (bJ1 _ _ _ _); rw [hj1.2.1]; omega)).1.trans (by show ((bwl (bJ1 _ _ _ _) n : Nat) : Int) = _; rw [hj1.2.2.2.2.2.2.1]; omega)))))
      refine And.intro ⟨(by omega), r20_112_7⟩ ⟨(fun h10_112 => False.elim (by omega)), fun h10_112 => ?_⟩
      refine And.intro (zA_82 hS) (zrdR (v := some 92) (zR_82_12 hR) ?_)
      refine And.intro (zP_92 hS (by omega) (by omega)) (fun v24_112 e24_112 r24_112 => ?_)
      have f24_112 : v24_112 = bPth s n rr c m := (e24_112.trans ((congrArg (xu I1 101 _ 1 92) (by omega)).trans ((zxu (by decide) rfl).trans (((hB2.2.2.2.2.2.1 n (by show n < bnn (bJ1 _ _ _ _); rw [hj1.2.1]; omega)).2 (bwl s n + m) (by show _ < bwl (bJ1 _ _ _ _) n; rw [hj1.2.2.2.2.2.2.1]; omega)).trans (by show ((bwy (bJ1 _ _ _ _) n _ : Nat) : Int) = _; rw [hj1.2.2.2.2.2.2.2.2.1 m (by omega)])))))
      have f24_112b : 0 ≤ v24_112 ∧ v24_112 ≤ 1023 := (by have := hf9 m (by omega); omega)
      refine And.intro ⟨(zx0 rfl), (zP_86 hS (by omega) (by omega))⟩ ⟨_, (zWi (by omega)), ?_⟩
      refine ⟨(2, (1025 - (m + 1)), 0), zlt6 (by omega), [some (zvr (98)), some (zvi (n)), some (zvi (c)), none, some (zvi (bwl s n)), some (zvi (bwl s n + (m + 1)))], ⟨rfl, rfl, rfl, rfl, (congrArg (fun z => some (zvi z)) (by omega)), rfl⟩, (m + 1), rfl, rfl, rfl, rfl, rfl, rfl, (by omega), ?_, ?_, (fun c j h0 h1 h2 h3 h4 h5 => (zxu h1 (zxu h5 ((fr c j (by omega) (by omega) (by omega) (by omega) (by omega) (by omega)).trans rfl))))⟩
      · refine zBA_ho (s := bJ2 s n (bPth s n rr c) (bPl s n rr c) m) (f := fun q => zite (zex (fun j => j < m + 1 ∧ bPth s n rr c j = q)) (n : Int) (bho (bJ1 s n (bPth s n rr c) (bPl s n rr c)) q)) hB2 (fun q hq => ?_) (fun q j w => zxu (by omega) (zxu (by omega) rfl)) (fun q j w => rfl)
        have w : I1 86 q = zite (zex (fun j => j < m ∧ bPth s n rr c j = q)) (n : Int) (bho (bJ1 s n (bPth s n rr c) (bPl s n rr c)) q) := (hB2.2.2.1 q hq).2.2.1
        by_cases e : q = v24_112.toNat
        · have e2 : bPth s n rr c m = q := by omega
          have hz2 : zex (fun j => j < m + 1 ∧ bPth s n rr c j = q) := Exists.intro m ⟨Nat.lt_succ_self m, e2⟩
          rw [zite_t hz2, e]
          exact zxe
        · refine zxs e (zxu (by decide) (w.trans ?_))
          by_cases e3 : zex (fun j => j < m ∧ bPth s n rr c j = q)
          · obtain ⟨j, j1, j2⟩ := id e3
            have hz2 : zex (fun j => j < m + 1 ∧ bPth s n rr c j = q) := Exists.intro j ⟨by omega, j2⟩
            rw [zite_t e3, zite_t hz2]
          · rw [zite_f e3, zite_f (fun k => e3 (by
              obtain ⟨j, j1, j2⟩ := k
              have : j ≠ m := fun h => e (by rw [← j2, h]; omega)
              exact Exists.intro j ⟨by omega, j2⟩))]
      · intro j hj
        rw [bTp_s]
        refine zxu (by decide) ?_
        by_cases e : j = v24_93.toNat
        · have e2 : j = bPth s n rr c m := by omega
          rw [zite_t (Or.inr e2), e]
          exact zxe
        · refine zxs e ((ht2 j hj).trans ?_)
          by_cases e3 : bTp s n (bPth s n rr c) m j
          · rw [zite_t e3, zite_t (Or.inl e3)]
          · rw [zite_f e3, zite_f (fun k => by
              rcases k with k | k
              · exact e3 k
              · exact e (by rw [k]; omega))])
