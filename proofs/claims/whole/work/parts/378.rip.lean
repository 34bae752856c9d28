/-! rp -/
theorem zBA_hi {b : Nat} {s : BdS} {I I' L L' : ZI} {f : Nat → Nat} (h : zBA b s I L) (hN : ∀ c : Nat, c < 1024 → I' 85 c = f c) (hf : ∀ c j, 82 ≤ c ∧ c ≤ 97 ∧ c ≠ 85 → I' c j = I c j) (hl : ∀ c j, c = 82 → L' c j = L c j) : zBA b (bs_hi s f) I' L' := by
  obtain ⟨⟨q1, q2, q3, q4, q5⟩, h2, h3, h4, h5, h6, h7, h8⟩ := h
  exact ⟨⟨(hf 82 0 (by omega)).trans q1, (hf 82 1 (by omega)).trans q2, (hf 82 2 (by omega)).trans q3, (hf 82 3 (by omega)).trans q4, (hl 82 4 rfl).trans q5⟩, fun c x a b => (hf 83 _ (by omega)).trans (h2 c x a b), fun c hc => ⟨(hf 84 c (by omega)).trans (h3 c hc).1, hN c hc, (hf 86 c (by omega)).trans (h3 c hc).2.2.1, (hf 87 c (by omega)).trans (h3 c hc).2.2.2⟩,
    zRT_fr h4 (fun c j q => hf c j (by omega)), zRT_fr h5 (fun c j q => hf c j (by omega)), fun n hn => ⟨(hf 93 n (by omega)).trans (h6 n hn).1, fun k hk => (hf 92 _ (by omega)).trans ((h6 n hn).2 k hk)⟩, fun l hl => ⟨(hf 94 l (by omega)).trans (h7 l hl).1, (hf 95 l (by omega)).trans (h7 l hl).2.1, (hf 96 l (by omega)).trans (h7 l hl).2.2⟩, fun x hx => (hf 97 x (by omega)).trans (h8 x hx)⟩
def T_A_rip : ZT := fun args I L R S Q => ∃ (b : Nat) (s : BdS) (n : Nat) (x : Int) (g : Nat) (y : Int) (F : Nat → Nat) (hb_ : Nat), args = [zvr 98, zvi x, zvi y] ∧ (zSh S) ∧ (zRs R) ∧ (zBA b s I L) ∧ (bGz s) ∧ (x = n ∧ n < bnn s) ∧ (y = g ∧ g ≤ bwl s n) ∧ (bwl s n ≤ 1024) ∧ (∀ j, g + j < bwl s n → F j = bwy s n (g + j)) ∧ (∀ k : Nat, k < bwl s n → bwy s n k < 1024) ∧ (∀ c, c < 1024 → -1 ≤ bho s c ∧ bho s c < bnn s) ∧ ((∀ c, c < 1024 → bhi s c ≤ hb_) ∧ hb_ ≤ 900000) ∧ (∀ m, m < bnn s → 0 ≤ bN s m 4 ∧ bN s m 4 ≤ 2000000000) ∧ (∀ m, m < bnn s → m ≠ n → bWok s m) ∧ ∀ (I' : ZI), (zBA b (bRp (bs_hi s (bHx s n F (bwl s n - g))) (bRm s n F (bwl s n - g)) 12) I' L) → (∀ c j : Nat, ¬ c = 85 → ¬ c = 86 → ¬ c = 91 → ¬ c = 93 → I' c j = I c j) → Q none I' L R S
theorem sn_A_rip : ZSnd 3 6 13 T_A_rip := ZSnd.loops (zT6_13 2) (by
  rintro args I L R S Q hz ⟨b, s, n, x, g, y, F, hb_, rfl, hS, hR, hBA, hGz, hxn, hfr, hwl, hF, hwk, hho, hhb, hrp, hW, hQ⟩
  obtain ⟨⟨hb0, hbw, hbh, hbd, hbs⟩, hnb, hcl, hPT, hNT, hwy, hco, hnd⟩ := id hBA
  obtain ⟨hP1, hP2, hP3, hP4⟩ := id hPT
  obtain ⟨hN1, hN2, hN3, hN4⟩ := id hNT
  obtain ⟨⟨⟨gW1, gW2⟩, ⟨gH1, gH2⟩, ⟨gD1, gD2⟩, gB9⟩, ⟨gnp, gnn⟩, gco⟩ := id hGz
  have hF1 : ∀ j : Nat, g + j < bwl s n → F j < 1024 := fun j hj => by rw [hF j hj]; exact hwk _ hj
  refine ⟨[5, 81], fun nM tM lsM stM I1 L1 R1 S1 => match tM with
      | 5 => ∃ (k : Nat), nM = (3, (1025 - k), 0) ∧ lsM = [some (zvr (98)), some (zvi (n)), some (zvi (g)), some (zvi (bRm s n F k)), some (zvi (g + k)), none] ∧ stM = [] ∧ L1 = L ∧ R1 = R ∧ S1 = S ∧ (g + k ≤ bwl s n) ∧ (zBA b (bs_hi s (bHx s n F k)) I1 L) ∧ (∀ c j : Nat, ¬ c = 85 → I1 c j = I c j)
      | 81 => ∃ (k : Nat) (m : Nat), nM = (2, (13 - m), 0) ∧ lsM = [some (zvr (98)), some (zvi (n)), some (zvi (g)), some (zvi (bRm s n F k)), some (zvi (m)), none] ∧ stM = [] ∧ L1 = L ∧ R1 = R ∧ S1 = S ∧ (g + k = bwl s n) ∧ (m ≤ 12) ∧ (zBA b (bRp (bs_hi s (bHx s n F k)) (bRm s n F k) m) I1 L) ∧ (∀ c j : Nat, ¬ c = 85 → ¬ c = 86 → ¬ c = 91 → ¬ c = 93 → I1 c j = I c j)
      | _ => False, rfl, ?_, ⟨?_, ?_, True.intro⟩⟩
  · refine ⟨(3, (1025 - (0 : Nat)), 0), [some (zvr (98)), some (zvi (n)), some (zvi (g)), some (zvi (bRm s n F (0 : Nat))), some (zvi (g + (0 : Nat))), none], ⟨rfl, (congrArg (fun z => some (zvi z)) (by omega)), (congrArg (fun z => some (zvi z)) (by omega)), (congrArg (fun z => some (zvi z)) rfl), (congrArg (fun z => some (zvi z)) (by omega)), rfl⟩, 0, rfl, rfl, rfl, rfl, rfl, rfl, (by omega), (by first | exact (zBA_fr hBA (fun c j h => rfl) (fun c j h => rfl)) | (clear hQ; grind [xu])), (fun c j h0 => rfl)⟩
  · rintro nM lsM stM I1 L1 R1 S1 hz1 ⟨k, rfl, rfl, rfl, rfl, rfl, rfl, hk, hB1, fr⟩
    have hm := bRm_b (n := n) (f := F) gnn hho k (fun j hj => hF1 j (by omega))
    have hm12 : 2 ^ bnn s ≤ 2 ^ 12 := Nat.pow_le_pow_right (by decide) gnn
    refine And.intro (zA_98 hS) (zrdR (v := some 82) (zR_98_0 hR) ?_)
    refine And.intro (zA_82 hS) (Exists.intro _ (And.intro (zinl_ok (zT0_27 1)) (And.intro rfl ?_)))
    refine And.intro (by omega) ⟨(fun h1_12 => False.elim (by omega)), fun h1_12 => ?_⟩
    refine And.intro (zA_82 hS) (zrdR (v := some 90) (zR_82_11 hR) ?_)
    refine And.intro (zA_90 hS) (zrd (v := (bnn s)) ((fr 90 2 (by omega)).trans hN2) ?_)
    refine And.intro ⟨(by omega), (by omega)⟩ ⟨(fun h12_12 => False.elim (by omega)), fun h12_12 => ?_⟩
    refine And.intro (zA_82 hS) (zrdR (v := some 93) (zR_82_13 hR) ?_)
    refine And.intro (zP_93 hS (by omega) (by omega)) (fun v20_12 e20_12 r20_12 => ?_)
    have f20_12 : v20_12 = bwl s n := (e20_12.trans ((congrArg (I1 93) (by omega)).trans ((fr 93 n (by omega)).trans (hwy n (by omega)).1)))
    refine And.intro ⟨(by omega), r20_12⟩ ⟨fun h15 => ?_, fun h15 => ?_⟩
    · refine ⟨(2, (13 - (0 : Nat)), 0), zlt6 (by omega), [some (zvr (98)), some (zvi (n)), some (zvi (g)), some (zvi (bRm s n F k)), some (zvi ((0 : Nat))), none], ⟨rfl, rfl, rfl, rfl, rfl, rfl⟩, k, 0, rfl, rfl, rfl, rfl, rfl, rfl, (by omega), (by omega), hB1, (fun c j h0 h1 h2 h3 => ((fr c j (by omega)).trans rfl))⟩
    · refine And.intro (zA_98 hS) (zrdR (v := some 82) (zR_98_0 hR) ?_)
      refine And.intro (zA_82 hS) (Exists.intro _ (And.intro (zinl_ok (zT0_26 1)) (And.intro rfl ?_)))
      refine And.intro (by omega) ⟨(fun h1_25 => False.elim (by omega)), fun h1_25 => ?_⟩
      refine And.intro (zA_82 hS) (Exists.intro _ (And.intro (zinl_ok (zT0_27 0)) (And.intro rfl ?_)))
      refine And.intro (by omega) ⟨(fun h1_25_7 => False.elim (by omega)), fun h1_25_7 => ?_⟩
      refine And.intro (zA_82 hS) (zrdR (v := some 90) (zR_82_11 hR) ?_)
      refine And.intro (zA_90 hS) (zrd (v := (bnn s)) ((fr 90 2 (by omega)).trans hN2) ?_)
      refine And.intro ⟨(by omega), (by omega)⟩ ⟨(fun h12_25_7 => False.elim (by omega)), fun h12_25_7 => ?_⟩
      refine And.intro (zA_82 hS) (zrdR (v := some 93) (zR_82_13 hR) ?_)
      refine And.intro (zP_93 hS (by omega) (by omega)) (fun v20_25_7 e20_25_7 r20_25_7 => ?_)
      have f20_25_7 : v20_25_7 = bwl s n := (e20_25_7.trans ((congrArg (I1 93) (by omega)).trans ((fr 93 n (by omega)).trans (hwy n (by omega)).1)))
      refine And.intro ⟨(by omega), r20_25_7⟩ ⟨(fun h10_25 => False.elim (by omega)), fun h10_25 => ?_⟩
      refine And.intro (zA_82 hS) (zrdR (v := some 92) (zR_82_12 hR) ?_)
      refine And.intro (zP_92 hS (by omega) (by omega)) (fun v24_25 e24_25 r24_25 => ?_)
      have f24_25 : v24_25 = F k := (e24_25.trans ((congrArg (I1 92) (by omega)).trans ((fr 92 (1024 * n + (g + k)) (by omega)).trans (((hwy n (by omega)).2 (g + k) (by omega)).trans (by rw [hF k (by omega)])))))
      have f24_25b : 0 ≤ v24_25 ∧ v24_25 ≤ 1023 := (by have := hF1 k (by omega); omega)
      refine And.intro (zA_98 hS) (zrdR (v := some 82) (zR_98_0 hR) ?_)
      refine And.intro (zA_82 hS) ⟨_, sn_A_hby.up (by decide), ?_⟩
      refine ⟨(v24_25 : Int), (n : Int), (F k), (bho s (F k)), rfl, hS, hR, (by have := hF1 k (by omega); omega), ((fr 86 (F k) (by omega)).trans (hcl (F k) (hF1 k (by omega))).2.2.1), (by omega), ?_⟩
      intro v37o p37hv
      refine And.intro (by omega) ⟨fun h40 => ?_, fun h40 => ?_⟩
      · refine ⟨(3, (1025 - (k + 1)), 0), zlt6 (by omega), [some (zvr (98)), some (zvi (n)), some (zvi (g)), some (zvi (bRm s n F (k + 1))), some (zvi (g + (k + 1))), none], ⟨rfl, rfl, rfl, (congrArg (fun z => some (zvi z)) (by
  show _ = zite (bHl s n (F k)) (zmk (bRm s n F k) (bho s (F k))) (bRm s n F k)
  rcases p37hv with w9 | w9
  · first
    | (exfalso; omega)
    | (have hq : bHl s n (F k) := w9.2
       rw [zite_t hq, ← f68]
       rfl)
  · first
    | (exfalso; omega)
    | (have hq : ¬ bHl s n (F k) := fun q => by
         have q1 := q.1
         have q2 := q.2
         omega
       rw [zite_f hq]))), (congrArg (fun z => some (zvi z)) (by omega)), rfl⟩, (k + 1), rfl, rfl, rfl, rfl, rfl, rfl, (by omega), ?_, (fun c j h0 => ((fr c j (by omega)).trans rfl))⟩
        · rcases p37hv with w9 | w9
          · first
            | (exfalso; omega)
            | (have hq : bHl s n (F k) := w9.2
               have e0 : bHx s n F (k + 1) = upF (bHx s n F k) (F k) (bHx s n F k (F k) + 1) := zite_t hq
               rw [e0]
               refine zBA_hi (s := bs_hi s (bHx s n F k)) (f := upF (bHx s n F k) (F k) (bHx s n F k (F k) + 1)) hB1 (fun c hc => ?_) (fun c j q => zxu (by omega) rfl) (fun c j q => rfl)
               unfold upF
               by_cases e : c = F k
               · rw [if_pos e]
                 have hat : xu I1 85 v24_25.toNat (v53 + 1) 85 c = v53 + 1 := by
                   rw [show c = v24_25.toNat by omega]
                   exact zxe
                 refine hat.trans ?_
                 omega
               · rw [if_neg e]
                 exact zxs (by omega) (hB1.2.2.1 c hc).2.1)
          · first
            | (exfalso; omega)
            | (have hq : ¬ bHl s n (F k) := fun q => by
                 have q1 := q.1
                 have q2 := q.2
                 omega
               rw [show bHx s n F (k + 1) = bHx s n F k from zite_f hq]
               exact hB1)
      · refine And.intro (zA_98 hS) (zrdR (v := some 82) (zR_98_0 hR) ?_)
        refine And.intro (zA_82 hS) (zrdR (v := some 85) (zR_82_7 hR) ?_)
        refine And.intro (zP_85 hS (by omega) (by omega)) (fun v53 e53 r53 => ?_)
        have f53 : v53 = bHx s n F k (F k) := (e53.trans ((congrArg (I1 85) (by omega)).trans (hB1.2.2.1 (F k) (hF1 k (by omega))).2.1))
        have f53b : 0 ≤ v53 ∧ v53 ≤ 901024 := (by have := bHx_b (n := n) (f := F) (hhb.1 (F k) (hF1 k (by omega))) k; have := hhb.2; omega)
        refine And.intro ⟨(zx0 rfl), (zP_85 hS (by omega) (by omega))⟩ ⟨_, (zWi (by omega)), ?_⟩
        refine And.intro (zA_98 hS) (zrdR (v := some 82) (zR_98_0 hR) ?_)
        refine And.intro (zA_82 hS) (zrdR (v := some 86) (zR_82_8 hR) ?_)
        refine And.intro (zP_86 hS (by omega) (by omega)) (fun v68 e68 r68 => ?_)
        have f68 : v68 = bho s (F k) := (e68.trans ((congrArg _ (by omega)).trans ((zxu (by decide) (fr 86 (F k) (by omega))).trans (hcl (F k) (hF1 k (by omega))).2.2.1)))
        refine ⟨(3, (1025 - (k + 1)), 0), zlt6 (by omega), [some (zvr (98)), some (zvi (n)), some (zvi (g)), some (zvi (bRm s n F (k + 1))), some (zvi (g + (k + 1))), none], ⟨rfl, rfl, rfl, (congrArg (fun z => some (zvi z)) (by
  show _ = zite (bHl s n (F k)) (zmk (bRm s n F k) (bho s (F k))) (bRm s n F k)
  rcases p37hv with w9 | w9
  · first
    | (exfalso; omega)
    | (have hq : bHl s n (F k) := w9.2
       rw [zite_t hq, ← f68]
       rfl)
  · first
    | (exfalso; omega)
    | (have hq : ¬ bHl s n (F k) := fun q => by
         have q1 := q.1
         have q2 := q.2
         omega
       rw [zite_f hq]))), (congrArg (fun z => some (zvi z)) (by omega)), rfl⟩, (k + 1), rfl, rfl, rfl, rfl, rfl, rfl, (by omega), ?_, (fun c j h0 => (zxu h0 ((fr c j (by omega)).trans rfl)))⟩
        · rcases p37hv with w9 | w9
          · first
            | (exfalso; omega)
            | (have hq : bHl s n (F k) := w9.2
               have e0 : bHx s n F (k + 1) = upF (bHx s n F k) (F k) (bHx s n F k (F k) + 1) := zite_t hq
               rw [e0]
               refine zBA_hi (s := bs_hi s (bHx s n F k)) (f := upF (bHx s n F k) (F k) (bHx s n F k (F k) + 1)) hB1 (fun c hc => ?_) (fun c j q => zxu (by omega) rfl) (fun c j q => rfl)
               unfold upF
               by_cases e : c = F k
               · rw [if_pos e]
                 have hat : xu I1 85 v24_25.toNat (v53 + 1) 85 c = v53 + 1 := by
                   rw [show c = v24_25.toNat by omega]
                   exact zxe
                 refine hat.trans ?_
                 omega
               · rw [if_neg e]
                 exact zxs (by omega) (hB1.2.2.1 c hc).2.1)
          · first
            | (exfalso; omega)
            | (have hq : ¬ bHl s n (F k) := fun q => by
                 have q1 := q.1
                 have q2 := q.2
                 omega
               rw [show bHx s n F (k + 1) = bHx s n F k from zite_f hq]
               exact hB1)
  · rintro nM lsM stM I1 L1 R1 S1 hz1 ⟨k, m, rfl, rfl, rfl, rfl, rfl, rfl, hk, hm9, hB2, fr⟩
    have hm := bRm_b (n := n) (f := F) gnn hho k (fun j hj => hF1 j (by omega))
    have hm12 : 2 ^ bnn s ≤ 2 ^ 12 := Nat.pow_le_pow_right (by decide) gnn
    have hp := bRp_p (bs_hi s (bHx s n F k)) (bRm s n F k) m
    have hpn : bnn (bRp (bs_hi s (bHx s n F k)) (bRm s n F k) m) = bnn s := hp.2.2.2.2.2.2.2.1
    refine And.intro ⟨(by omega), (zRb rfl)⟩ ⟨fun h85 => ?_, fun h85 => ?_⟩
    · refine hQ _ (by rw [show bwl s n - g = k by omega, show (12 : Nat) = m by omega]; exact hB2) (fun c j h0 h1 h2 h3 => ((fr c j (by omega) (by omega) (by omega) (by omega)).trans rfl))
    · have b93 : (zand (zshr (bRm s n F k) m) 1) = (zshr (bRm s n F k) m) % 2 := zand1 _
      refine And.intro zr_and ⟨fun h94 => ?_, fun h94 => ?_⟩
      · refine ⟨(2, (13 - (m + 1)), 0), zlt6 (by omega), [some (zvr (98)), some (zvi (n)), some (zvi (g)), some (zvi (bRm s n F k)), some (zvi ((m + 1))), none], ⟨rfl, rfl, rfl, rfl, rfl, rfl⟩, k, (m + 1), rfl, rfl, rfl, rfl, rfl, rfl, (by omega), (by omega), ?_, (fun c j h0 h1 h2 h3 => ((fr c j (by omega) (by omega) (by omega) (by omega)).trans rfl))⟩
        · first
          | (rw [show bRp (bs_hi s (bHx s n F k)) (bRm s n F k) (m + 1) = (bRp (bs_hi s (bHx s n F k)) (bRm s n F k) m) from zite_f (fun q => q (by first | exact h94 | omega))]
             exact hB2)
          | (have e0 : bRp (bs_hi s (bHx s n F k)) (bRm s n F k) (m + 1) = bRo (bRp (bs_hi s (bHx s n F k)) (bRm s n F k) m) m := zite_t (show bBit (bRm s n F k) m from h94)
             rw [e0]
             have hT3 := p131hT2
             rw [p126hv] at hT3
             exact zBA_N p103hBA2 hT3 (fun c j q => p131bfr c j (by omega)) (fun c j q => rfl))
      · have t94 : m < bnn s := (by rcases Nat.lt_or_ge m (bnn s) with q | q; exact q; exact absurd (show bBit (bRm s n F k) m from h94) (bBit_no hm.1 gnn q (by omega)))
        have t94b : m ≠ n := (by obtain ⟨j, j1, j2, j3⟩ := hm.2 m (by omega) (show bBit (bRm s n F k) m from h94); have := j2.2; omega)
        refine And.intro (zA_98 hS) (zrdR (v := some 82) (zR_98_0 hR) ?_)
        refine And.intro (zA_82 hS) ⟨_, sn_A_letGo.up (by decide), ?_⟩
        refine ⟨b, (bRp (bs_hi s (bHx s n F k)) (bRm s n F k) m), m, (m : Int), rfl, hS, hR, hB2, ⟨rfl, by rw [hpn]; omega⟩, (bWok_rp (s := (bs_hi s (bHx s n F k))) (hW m (by omega) (by omega)) m), ?_⟩
        intro I103o p103hBA2 p103bfr
        refine And.intro (zA_98 hS) (zrdR (v := some 82) (zR_98_0 hR) ?_)
        refine And.intro (zA_82 hS) (zrdR (v := some 90) (zR_82_11 hR) ?_)
        refine And.intro (zA_98 hS) (zrdR (v := some 82) (zR_98_0 hR) ?_)
        refine And.intro (zA_82 hS) (zrdR (v := some 90) (zR_82_11 hR) ?_)
        refine And.intro (zA_90 hS) ⟨_, sn_A_at.up (by decide), ?_⟩
        refine ⟨_, 12, (bnn (bRp (bs_hi s (bHx s n F k)) (bRm s n F k) m)), (bN (bLet (bRp (bs_hi s (bHx s n F k)) (bRm s n F k) m) m)), m, 4, (m : Int), (4 : Int), rfl, hS, hR, (zRw_90 hR hS), p103hBA2.2.2.2.2.1, ⟨rfl, by rw [hpn]; omega⟩, (by omega), ?_⟩
        intro v126o p126hv p126bhr
        have g126 : v126o = bN s m 4 := (p126hv.trans ((up2z_ne (by omega)).trans ((bRp_N _ _ (Nat.le_refl m)).1 4)))
        have g126b : 0 ≤ v126o ∧ v126o ≤ 2000000000 := (by rw [g126]; exact hrp m (by omega))
        refine And.intro (zA_90 hS) ⟨_, sn_A_set.up (by decide), ?_⟩
        refine ⟨_, 12, (bnn (bRp (bs_hi s (bHx s n F k)) (bRm s n F k) m)), (bN (bLet (bRp (bs_hi s (bHx s n F k)) (bRm s n F k) m) m)), m, 4, (m : Int), (4 : Int), ((v126o + 1) : Int), rfl, hS, hR, (zRw_90 hR hS), p103hBA2.2.2.2.2.1, ⟨rfl, by rw [hpn]; omega⟩, (by omega), (by omega), ?_⟩
        intro I131o p131hT2 p131bfr
        refine ⟨(2, (13 - (m + 1)), 0), zlt6 (by omega), [some (zvr (98)), some (zvi (n)), some (zvi (g)), some (zvi (bRm s n F k)), some (zvi ((m + 1))), none], ⟨rfl, rfl, rfl, rfl, rfl, rfl⟩, k, (m + 1), rfl, rfl, rfl, rfl, rfl, rfl, (by omega), (by omega), ?_, (fun c j h0 h1 h2 h3 => ((p131bfr c j (by omega)).trans ((p103bfr c j (by omega) (by omega) (by omega)).trans ((fr c j (by omega) (by omega) (by omega) (by omega)).trans rfl))))⟩
        · first
          | (rw [show bRp (bs_hi s (bHx s n F k)) (bRm s n F k) (m + 1) = (bRp (bs_hi s (bHx s n F k)) (bRm s n F k) m) from zite_f (fun q => q (by first | exact h94 | omega))]
             exact hB2)
          | (have e0 : bRp (bs_hi s (bHx s n F k)) (bRm s n F k) (m + 1) = bRo (bRp (bs_hi s (bHx s n F k)) (bRm s n F k) m) m := zite_t (show bBit (bRm s n F k) m from h94)
             rw [e0]
             have hT3 := p131hT2
             rw [p126hv] at hT3
             exact zBA_N p103hBA2 hT3 (fun c j q => p131bfr c j (by omega)) (fun c j q => rfl)))
