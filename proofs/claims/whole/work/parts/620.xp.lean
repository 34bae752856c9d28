/-! xp -/
def T_W_cop : ZT := fun args I L R S Q => ∃ (k : Nat) (w : List CuR) (pc : Nat) (N : Int), args = [zvr k, zvi N] ∧ (zSh S) ∧ (zRs R) ∧ (zDy zT15 zF15 k R S) ∧ (zPc k w pc I L) ∧ (cuG w) ∧ (w.length ≤ 60) ∧ (cuPq w pc) ∧ (0 ≤ N ∧ N < 20) ∧ ∀ (v : Int) (I' : ZI) (L' : ZI), (v = cuAn w pc N) → (0 ≤ v ∧ v ≤ pc) → (∀ c j : Nat, ¬ (c = k ∧ j = 17) → ¬ (c = k ∧ j = 18) → ¬ c = k + 11 → ¬ c = k + 12 → ¬ c = k + 13 → I' c j = I c j) → (∀ c j : Nat, ¬ (c = k ∧ j = 16) → L' c j = L c j) → Q (some (zvi (v))) I' L' R S
theorem sn_W_cop : ZSnd 5 15 1 T_W_cop := ZSnd.loops (zT15_1 4) (by
  rintro args I L R S Q hz ⟨k, w, pc, N, rfl, hS, hR, hd, hPc, hG, hcl, hpq, hN, hQ⟩
  have hk5 := hd.1
  obtain ⟨hp0, hpi, hpn⟩ := id hPc
  obtain ⟨n, hn⟩ : ∃ n, n = cuNp w := ⟨_, rfl⟩
  have hn60 : n ≤ 60 := by have z := cuNp_l (w := w); omega
  rw [← hn] at hp0 hpi
  have hpcn : pc ≤ n ∧ pc ≤ 40 := ⟨by have z := (cuPq_p hpq).1; omega, hpq.1⟩
  refine ⟨[7, 35], fun nM tM lsM stM I1 L1 R1 S1 => match tM with
      | 7 => ∃ (m : Nat), nM = (3, (61 - m), 0) ∧ lsM = [some (zvr (k)), some (zvi (N)), some (zvi (m))] ∧ stM = [] ∧ L1 = L ∧ R1 = R ∧ S1 = S ∧ (m ≤ n) ∧ (∀ p : Nat, p < n → I1 (k + 12) p = cuNm w p) ∧ (∀ p : Nat, p < m → I1 (k + 13) p = cuNm w p) ∧ (∀ c j : Nat, ¬ c = k + 11 → ¬ c = k + 12 → ¬ c = k + 13 → I1 c j = I c j)
      | 35 => ∃ (t : Nat), nM = (2, (61 - t), 0) ∧ lsM = [some (zvr (k)), some (zvi (N)), some (zvi (t))] ∧ stM = [] ∧ R1 = R ∧ S1 = S ∧ (t ≤ pc) ∧ (∀ p : Nat, p < cuNp w → I1 (k + 13) p = cuM w pc N t p) ∧ (∀ s : Nat, s < t → cuAr w pc N s ≠ -1) ∧ (∀ c j : Nat, ¬ (c = k ∧ j = 17) → ¬ (c = k ∧ j = 18) → ¬ c = k + 11 → ¬ c = k + 12 → ¬ c = k + 13 → I1 c j = I c j) ∧ (∀ c j : Nat, ¬ (c = k ∧ j = 16) → L1 c j = L c j)
      | _ => False, rfl, ?_, ⟨?_, ?_, True.intro⟩⟩
  · refine And.intro (zDX hd 0 rfl) ⟨_, sn_W_fnn.up (by decide), ?_⟩
    refine ⟨_, w, pc, rfl, hS, hR, hd, (by first | exact (zPc_fr hPc (fun c j h => rfl) (fun c j h => rfl)) | (clear hQ; grind [xu])), (by first | exact hG | (clear hQ; grind [xu])), (by omega), (by first | exact hpq | (clear hQ; grind [xu])), ?_⟩
    intro v1o I1o p1hv p1bhv2 p1bbhNm p1bbbfr
    refine ⟨(3, (61 - (0 : Nat)), 0), [some (zvr (k)), some (zvi (N)), some (zvi ((0 : Nat)))], ⟨rfl, rfl, rfl, rfl⟩, 0, rfl, rfl, rfl, rfl, rfl, rfl, (by omega), (fun p hp => p1bbhNm p (by omega)), (fun p h => absurd h (Nat.not_lt_zero p)), (fun c j h0 h1 h2 => ((p1bbbfr c j h0 h1).trans rfl))⟩
  · rintro nM lsM stM I1 L1 R1 S1 hz1 ⟨m, rfl, rfl, rfl, rfl, rfl, rfl, hm, hNm1, hgr, fr⟩
    refine And.intro (zDX hd 0 rfl) (zrd (v := n) ((fr k 2 (by omega) (by omega) (by omega)).trans hp0) ?_)
    refine And.intro ⟨(by omega), (by omega)⟩ ⟨fun h12 => ?_, fun h12 => ?_⟩
    · refine ⟨(2, (61 - (0 : Nat)), 0), zlt6 (by omega), [some (zvr (k)), some (zvi (N)), some (zvi ((0 : Nat)))], ⟨rfl, rfl, rfl, rfl⟩, 0, rfl, rfl, rfl, rfl, rfl, (by omega), (fun p hp => hgr p (by omega)), (fun s h => absurd h (Nat.not_lt_zero s)), (fun c j h0 h1 h2 h3 h4 => ((fr c j h2 h3 h4).trans rfl)), (fun c j h0 => rfl)⟩
    · refine And.intro (zDX hd 0 rfl) (zrdR (v := some (k + 13)) (zDR hd 12 rfl) ?_)
      refine And.intro (zDX hd 0 rfl) (zrdR (v := some (k + 12)) (zDR hd 11 rfl) ?_)
      refine And.intro (zDP hd 12 rfl rfl (by omega) (by omega)) (fun v25 e25 r25 => ?_)
      have f25 : v25 = cuNm w m := (e25.trans ((congrArg (I1 (k + 12)) (show _ = m by omega)).trans (hNm1 m (by omega))))
      refine And.intro ⟨(by show 40 ≤ _; omega), (zDP hd 13 rfl rfl (by omega) (by omega))⟩ ⟨_, (zWi r25), ?_⟩
      refine ⟨(3, (61 - (m + 1)), 0), zlt6 (by omega), [some (zvr (k)), some (zvi (N)), some (zvi ((m + 1)))], ⟨rfl, rfl, rfl, rfl⟩, (m + 1), rfl, rfl, rfl, rfl, rfl, rfl, (by omega), (fun p hp => zxu (by omega) (hNm1 p hp)), (fun p hp => by by_cases e : p = m; (rw [e]; exact (zxe' (by omega)).trans (by omega)); exact zxs (by omega) (hgr p (by omega))), (fun c j h0 h1 h2 => (zxu h2 ((fr c j h0 h1 h2).trans rfl)))⟩
  · rintro nM lsM stM I1 L1 R1 S1 hz1 ⟨t, rfl, rfl, rfl, rfl, rfl, ht, hg, hl, fr, frL⟩
    have htl := cuAt_l (w := w) (pc := pc) (net := (N : Int)) (show pc ≤ 60 by omega) t hl
    refine And.intro (zDX hd 0 rfl) ⟨_, sn_W_nxa.up (by decide), ?_⟩
    refine ⟨_, w, pc, (N : Int), (cuM w pc N t), rfl, hS, hR, hd, (by first | exact (zPc_fr hPc (fun c j h => ((fr c j (by omega) (by omega) (by omega) (by omega) (by omega)).trans rfl)) (fun c j h => ((frL c j (by omega)).trans rfl))) | (clear hQ; grind [xu])), (by first | exact hG | (clear hQ; grind [xu])), (by omega), (by first | exact hpq | (clear hQ; grind [xu])), (by omega), (by clear hQ; grind [xu]), ?_⟩
    intro v37o I37o L37o p37hv p37bhb p37bbhg0 p37bbbhg1 p37bbbbfr p37bbbbbfrL
    refine And.intro (by omega) ⟨fun h40 => ?_, fun h40 => ?_⟩
    · refine hQ _ _ _ (by rw [(show cuAn w pc (N : Int) = t by rcases p37hv with z | z; exact cuAt_e (show pc ≤ 60 by omega) (cuAr_e z.2) hl; (exfalso; omega))]) (by omega) (fun c j h0 h1 h2 h3 h4 => ((p37bbbbfr c j h0 h1 h4).trans ((fr c j h0 h1 h2 h3 h4).trans rfl))) (fun c j h0 => ((p37bbbbbfrL c j h0).trans ((frL c j h0).trans rfl)))
    · refine ⟨(2, (61 - (t + 1)), 0), zlt6 (by omega), [some (zvr (k)), some (zvi (N)), some (zvi ((t + 1)))], ⟨rfl, rfl, rfl, rfl⟩, (t + 1), rfl, rfl, rfl, rfl, rfl, (by have z := cuAt_l (w := w) (pc := pc) (net := (N : Int)) (show pc ≤ 60 by omega) (t + 1) (fun s hs => by by_cases e : s = t; (subst e; rcases p37hv with z | z; (exfalso; omega); (have z2 := p37bhb (by omega); rw [(cuAt_s z.2 (by omega)).1]; omega)); exact hl s (by omega)); omega), ?_, ?_, (fun c j h0 h1 h2 h3 h4 => ((p37bbbbfr c j h0 h1 h4).trans ((fr c j h0 h1 h2 h3 h4).trans rfl))), (fun c j h0 => ((p37bbbbbfrL c j h0).trans ((frL c j h0).trans rfl)))⟩
      · intro p hp
        rcases p37hv with z | z
        · omega
        · have z2 := p37bhb (by omega)
          rw [(cuAt_s z.2 (by omega)).2]
          exact p37bbbhg1 (by omega) p hp
      · intro s hs
        by_cases e : s = t
        · subst e
          rcases p37hv with z | z
          · omega
          · have z2 := p37bhb (by omega)
            rw [(cuAt_s z.2 (by omega)).1]
            omega
        · exact hl s (by omega))
def T_W_fal : ZT := fun args I L R S Q => ∃ (k : Nat) (w : List CuR) (pc : Nat) (N : Int) (kk : Int), args = [zvr k, zvi N, zvi kk] ∧ (zSh S) ∧ (zRs R) ∧ (zDy zT15 zF15 k R S) ∧ (zPc k w pc I L) ∧ (cuG w) ∧ (w.length ≤ 60) ∧ (cuPq w pc) ∧ (0 ≤ N ∧ N < 20) ∧ (r32 kk) ∧ ∀ (v : Int) (I' : ZI) (L' : ZI), ((v = 1 ∧ (0 ≤ kk ∧ kk < cuAn w pc N) ∧ I' k 17 = cuAr w pc N kk.toNat / 60 ∧ I' k 18 = cuAr w pc N kk.toNat % 60) ∨ (v = 0 ∧ (kk < 0 ∨ cuAn w pc N ≤ kk))) → (∀ c j : Nat, ¬ (c = k ∧ j = 17) → ¬ (c = k ∧ j = 18) → ¬ c = k + 11 → ¬ c = k + 12 → ¬ c = k + 13 → I' c j = I c j) → (∀ c j : Nat, ¬ (c = k ∧ j = 16) → L' c j = L c j) → Q (some (zvi (v))) I' L' R S
theorem sn_W_fal : ZSnd 5 15 3 T_W_fal := ZSnd.loops (zT15_3 4) (by
  rintro args I L R S Q hz ⟨k, w, pc, N, kk, rfl, hS, hR, hd, hPc, hG, hcl, hpq, hN, hkk, hQ⟩
  have hk5 := hd.1
  obtain ⟨hp0, hpi, hpn⟩ := id hPc
  obtain ⟨n, hn⟩ : ∃ n, n = cuNp w := ⟨_, rfl⟩
  have hn60 : n ≤ 60 := by have z := cuNp_l (w := w); omega
  rw [← hn] at hp0 hpi
  have hpcn : pc ≤ n ∧ pc ≤ 40 := ⟨by have z := (cuPq_p hpq).1; omega, hpq.1⟩
  refine ⟨[13, 41], fun nM tM lsM stM I1 L1 R1 S1 => match tM with
      | 13 => ∃ (m : Nat), nM = (3, (61 - m), 0) ∧ lsM = [some (zvr (k)), some (zvi (N)), some (zvi (kk)), some (zvi (m))] ∧ stM = [] ∧ L1 = L ∧ R1 = R ∧ S1 = S ∧ (m ≤ n) ∧ (∀ p : Nat, p < n → I1 (k + 12) p = cuNm w p) ∧ (∀ p : Nat, p < m → I1 (k + 13) p = cuNm w p) ∧ (∀ c j : Nat, ¬ c = k + 11 → ¬ c = k + 12 → ¬ c = k + 13 → I1 c j = I c j) ∧ (0 ≤ kk)
      | 41 => ∃ (t : Nat), nM = (2, (61 - t), 0) ∧ lsM = [some (zvr (k)), some (zvi (N)), some (zvi (kk)), some (zvi (t))] ∧ stM = [] ∧ R1 = R ∧ S1 = S ∧ (t ≤ pc ∧ t ≤ kk + 1 ∧ 0 ≤ kk) ∧ (∀ p : Nat, p < cuNp w → I1 (k + 13) p = cuM w pc N t p) ∧ (∀ s : Nat, s < t → cuAr w pc N s ≠ -1) ∧ (0 < t → I1 k 17 = cuAr w pc N (t - 1) / 60 ∧ I1 k 18 = cuAr w pc N (t - 1) % 60) ∧ (∀ c j : Nat, ¬ (c = k ∧ j = 17) → ¬ (c = k ∧ j = 18) → ¬ c = k + 11 → ¬ c = k + 12 → ¬ c = k + 13 → I1 c j = I c j) ∧ (∀ c j : Nat, ¬ (c = k ∧ j = 16) → L1 c j = L c j)
      | _ => False, rfl, ?_, ⟨?_, ?_, True.intro⟩⟩
  · refine And.intro (by omega) ⟨fun h1 => ?_, fun h1 => ?_⟩
    · refine And.intro (zDX hd 0 rfl) ⟨_, sn_W_fnn.up (by decide), ?_⟩
      refine ⟨_, w, pc, rfl, hS, hR, hd, (by first | exact (zPc_fr hPc (fun c j h => rfl) (fun c j h => rfl)) | (clear hQ; grind [xu])), (by first | exact hG | (clear hQ; grind [xu])), (by omega), (by first | exact hpq | (clear hQ; grind [xu])), ?_⟩
      intro v7o I7o p7hv p7bhv2 p7bbhNm p7bbbfr
      refine ⟨(3, (61 - (0 : Nat)), 0), [some (zvr (k)), some (zvi (N)), some (zvi (kk)), some (zvi ((0 : Nat)))], ⟨rfl, rfl, rfl, rfl, rfl⟩, 0, rfl, rfl, rfl, rfl, rfl, rfl, (by omega), (fun p hp => p7bbhNm p (by omega)), (fun p h => absurd h (Nat.not_lt_zero p)), (fun c j h0 h1 h2 => ((p7bbbfr c j h0 h1).trans rfl)), (by omega)⟩
    · refine And.intro (Or.inl rfl) ?_
      refine hQ _ _ _ ?_ (fun c j h0 h1 h2 h3 h4 => rfl) (fun c j h0 => rfl)
      · first
        | exact Or.inr ⟨rfl, Or.inl (by omega)⟩
        | (refine Or.inr ⟨rfl, Or.inr ?_⟩
           rw [(show cuAn w pc (N : Int) = t by rcases p48hv with z | z; exact cuAt_e (show pc ≤ 60 by omega) (cuAr_e z.2) hl; (exfalso; omega))]
           omega)
        | (have e : t = kk.toNat + 1 := by omega
           subst e
           have z := cuAt_g (show pc ≤ 60 by omega) hl
           have z2 := hlast (by omega)
           rw [Nat.add_sub_cancel] at z2
           exact Or.inl ⟨rfl, by omega, z2.1, z2.2⟩)
  · rintro nM lsM stM I1 L1 R1 S1 hz1 ⟨m, rfl, rfl, rfl, rfl, rfl, rfl, hm, hNm1, hgr, fr, hk0⟩
    refine And.intro (zDX hd 0 rfl) (zrd (v := n) ((fr k 2 (by omega) (by omega) (by omega)).trans hp0) ?_)
    refine And.intro ⟨(by omega), (by omega)⟩ ⟨fun h18 => ?_, fun h18 => ?_⟩
    · refine ⟨(2, (61 - (0 : Nat)), 0), zlt6 (by omega), [some (zvr (k)), some (zvi (N)), some (zvi (kk)), some (zvi ((0 : Nat)))], ⟨rfl, rfl, rfl, rfl, rfl⟩, 0, rfl, rfl, rfl, rfl, rfl, (by omega), (fun p hp => hgr p (by omega)), (fun s h => absurd h (Nat.not_lt_zero s)), (fun h => absurd h (Nat.lt_irrefl 0)), (fun c j h0 h1 h2 h3 h4 => ((fr c j h2 h3 h4).trans rfl)), (fun c j h0 => rfl)⟩
    · refine And.intro (zDX hd 0 rfl) (zrdR (v := some (k + 13)) (zDR hd 12 rfl) ?_)
      refine And.intro (zDX hd 0 rfl) (zrdR (v := some (k + 12)) (zDR hd 11 rfl) ?_)
      refine And.intro (zDP hd 12 rfl rfl (by omega) (by omega)) (fun v31 e31 r31 => ?_)
      have f31 : v31 = cuNm w m := (e31.trans ((congrArg (I1 (k + 12)) (show _ = m by omega)).trans (hNm1 m (by omega))))
      refine And.intro ⟨(by show 40 ≤ _; omega), (zDP hd 13 rfl rfl (by omega) (by omega))⟩ ⟨_, (zWi r31), ?_⟩
      refine ⟨(3, (61 - (m + 1)), 0), zlt6 (by omega), [some (zvr (k)), some (zvi (N)), some (zvi (kk)), some (zvi ((m + 1)))], ⟨rfl, rfl, rfl, rfl, rfl⟩, (m + 1), rfl, rfl, rfl, rfl, rfl, rfl, (by omega), (fun p hp => zxu (by omega) (hNm1 p hp)), (fun p hp => by by_cases e : p = m; (rw [e]; exact (zxe' (by omega)).trans (by omega)); exact zxs (by omega) (hgr p (by omega))), (fun c j h0 h1 h2 => (zxu h2 ((fr c j h0 h1 h2).trans rfl))), (by omega)⟩
  · rintro nM lsM stM I1 L1 R1 S1 hz1 ⟨t, rfl, rfl, rfl, rfl, rfl, ht, hg, hl, hlast, fr, frL⟩
    have htl := cuAt_l (w := w) (pc := pc) (net := (N : Int)) (show pc ≤ 60 by omega) t hl
    refine And.intro ⟨(by omega), (by omega)⟩ ⟨fun h43 => ?_, fun h43 => ?_⟩
    · refine And.intro (Or.inr rfl) ?_
      refine hQ _ _ _ ?_ (fun c j h0 h1 h2 h3 h4 => ((fr c j h0 h1 h2 h3 h4).trans rfl)) (fun c j h0 => ((frL c j h0).trans rfl))
      · first
        | exact Or.inr ⟨rfl, Or.inl (by omega)⟩
        | (refine Or.inr ⟨rfl, Or.inr ?_⟩
           rw [(show cuAn w pc (N : Int) = t by rcases p48hv with z | z; exact cuAt_e (show pc ≤ 60 by omega) (cuAr_e z.2) hl; (exfalso; omega))]
           omega)
        | (have e : t = kk.toNat + 1 := by omega
           subst e
           have z := cuAt_g (show pc ≤ 60 by omega) hl
           have z2 := hlast (by omega)
           rw [Nat.add_sub_cancel] at z2
           exact Or.inl ⟨rfl, by omega, z2.1, z2.2⟩)
    · refine And.intro (zDX hd 0 rfl) ⟨_, sn_W_nxa.up (by decide), ?_⟩
      refine ⟨_, w, pc, (N : Int), (cuM w pc N t), rfl, hS, hR, hd, (by first | exact (zPc_fr hPc (fun c j h => ((fr c j (by omega) (by omega) (by omega) (by omega) (by omega)).trans rfl)) (fun c j h => ((frL c j (by omega)).trans rfl))) | (clear hQ; grind [xu])), (by first | exact hG | (clear hQ; grind [xu])), (by omega), (by first | exact hpq | (clear hQ; grind [xu])), (by omega), (by clear hQ; grind [xu]), ?_⟩
      intro v48o I48o L48o p48hv p48bhb p48bbhg0 p48bbbhg1 p48bbbbfr p48bbbbbfrL
      refine And.intro (by omega) ⟨fun h51 => ?_, fun h51 => ?_⟩
      · refine ⟨(2, (61 - (t + 1)), 0), zlt6 (by omega), [some (zvr (k)), some (zvi (N)), some (zvi (kk)), some (zvi ((t + 1)))], ⟨rfl, rfl, rfl, rfl, rfl⟩, (t + 1), rfl, rfl, rfl, rfl, rfl, (by have z := cuAt_l (w := w) (pc := pc) (net := (N : Int)) (show pc ≤ 60 by omega) (t + 1) (fun s hs => by by_cases e : s = t; (subst e; rcases p48hv with z | z; (exfalso; omega); (have z2 := p48bhb (by omega); rw [(cuAt_s z.2 (by omega)).1]; omega)); exact hl s (by omega)); omega), ?_, ?_, ?_, (fun c j h0 h1 h2 h3 h4 => ((p48bbbbfr c j h0 h1 h4).trans ((fr c j h0 h1 h2 h3 h4).trans rfl))), (fun c j h0 => ((p48bbbbbfrL c j h0).trans ((frL c j h0).trans rfl)))⟩
        · intro p hp
          rcases p48hv with z | z
          · omega
          · have z2 := p48bhb (by omega)
            rw [(cuAt_s z.2 (by omega)).2]
            exact p48bbbhg1 (by omega) p hp
        · intro s hs
          by_cases e : s = t
          · subst e
            rcases p48hv with z | z
            · omega
            · have z2 := p48bhb (by omega)
              rw [(cuAt_s z.2 (by omega)).1]
              omega
          · exact hl s (by omega)
        · intro _
          rw [Nat.add_sub_cancel]
          rcases p48hv with z | z
          · omega
          · have z2 := p48bhb (by omega)
            rw [(cuAt_s z.2 (by omega)).1]
            omega
      · refine And.intro (Or.inl rfl) ?_
        refine hQ _ _ _ ?_ (fun c j h0 h1 h2 h3 h4 => ((p48bbbbfr c j h0 h1 h4).trans ((fr c j h0 h1 h2 h3 h4).trans rfl))) (fun c j h0 => ((p48bbbbbfrL c j h0).trans ((frL c j h0).trans rfl)))
        · first
          | exact Or.inr ⟨rfl, Or.inl (by omega)⟩
          | (refine Or.inr ⟨rfl, Or.inr ?_⟩
             rw [(show cuAn w pc (N : Int) = t by rcases p48hv with z | z; exact cuAt_e (show pc ≤ 60 by omega) (cuAr_e z.2) hl; (exfalso; omega))]
             omega)
          | (have e : t = kk.toNat + 1 := by omega
             subst e
             have z := cuAt_g (show pc ≤ 60 by omega) hl
             have z2 := hlast (by omega)
             rw [Nat.add_sub_cancel] at z2
             exact Or.inl ⟨rfl, by omega, z2.1, z2.2⟩))
