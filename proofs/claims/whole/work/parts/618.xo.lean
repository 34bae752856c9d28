/-! xo -/
def T_W_nxa : ZT := fun args I L R S Q => ∃ (k : Nat) (w : List CuR) (pc : Nat) (net : Int) (mk : Nat → Int), args = [zvr k, zvi net] ∧ (zSh S) ∧ (zRs R) ∧ (zDy zT15 zF15 k R S) ∧ (zPc k w pc I L) ∧ (cuG w) ∧ (w.length ≤ 60) ∧ (cuPq w pc) ∧ (0 ≤ net ∧ net < 20) ∧ (∀ p : Nat, p < cuNp w → I (k + 13) p = mk p) ∧ ∀ (v : Int) (I' : ZI) (L' : ZI), ((v = 0 ∧ cuNx w pc net mk (-1)) ∨ (v = 1 ∧ cuNx w pc net mk (60 * I' k 17 + I' k 18))) → (v = 1 → (0 ≤ I' k 17 ∧ I' k 17 < I' k 18 ∧ I' k 18 < pc)) → (v = 0 → ∀ p : Nat, p < cuNp w → I' (k + 13) p = mk p) → (v = 1 → ∀ p : Nat, p < cuNp w → I' (k + 13) p = cuJm mk (60 * I' k 17 + I' k 18) p) → (∀ c j : Nat, ¬ (c = k ∧ j = 17) → ¬ (c = k ∧ j = 18) → ¬ c = k + 13 → I' c j = I c j) → (∀ c j : Nat, ¬ (c = k ∧ j = 16) → L' c j = L c j) → Q (some (zvi (v))) I' L' R S
theorem sn_W_nxa : ZSnd 2 15 18 T_W_nxa := ZSnd.loops (zT15_18 1) (by
  rintro args I L R S Q hz ⟨k, w, pc, net, mk, rfl, hS, hR, hd, hPc, hG, hcl, hpq, hnet, hgr0, hQ⟩
  have hk5 := hd.1
  obtain ⟨hp0, hpi, hpn⟩ := id hPc
  obtain ⟨n, hn⟩ : ∃ n, n = cuNp w := ⟨_, rfl⟩
  have hn60 : n ≤ 60 := by have z := cuNp_l (w := w); omega
  rw [← hn] at hp0 hpi
  have hpcn : pc ≤ n ∧ pc ≤ 40 := ⟨by have z := (cuPq_p hpq).1; omega, hpq.1⟩
  have hgr : ∀ p : Nat, p < n → I (k + 13) p = mk p := fun p h => hgr0 p (by omega)
  refine ⟨[4, 15, 246], fun nM tM lsM stM I1 L1 R1 S1 => match tM with
      | 4 => ∃ (u : Int) (q : Nat), nM = (2, (61 - q), 99) ∧ lsM = [some (zvr (k)), some (zvi (net)), some (zvi (u)), some (zvi (q)), none, none, none, none] ∧ stM = [] ∧ R1 = R ∧ S1 = S ∧ (q ≤ n ∧ 0 ≤ u ∧ u ≤ 1) ∧ (cuNg w pc net mk 0 q u (I1 k 17) (I1 k 18) (L1 k 16)) ∧ (∀ c : Nat, I1 (k + 13) c = I (k + 13) c) ∧ (∀ c j : Nat, ¬ (c = k ∧ j = 17) → ¬ (c = k ∧ j = 18) → ¬ c = k + 13 → I1 c j = I c j) ∧ (∀ c j : Nat, ¬ (c = k ∧ j = 16) → L1 c j = L c j)
      | 15 => ∃ (u : Int) (q : Nat) (p : Nat), nM = (2, (61 - q), (61 - p)) ∧ lsM = [some (zvr (k)), some (zvi (net)), some (zvi (u)), some (zvi (q)), some (zvi (p)), none, none, none] ∧ stM = [] ∧ R1 = R ∧ S1 = S ∧ ((q < n ∧ p ≤ q) ∧ 0 ≤ u ∧ u ≤ 1) ∧ (cuNg w pc net mk p q u (I1 k 17) (I1 k 18) (L1 k 16)) ∧ (∀ c : Nat, I1 (k + 13) c = I (k + 13) c) ∧ (∀ c j : Nat, ¬ (c = k ∧ j = 17) → ¬ (c = k ∧ j = 18) → ¬ c = k + 13 → I1 c j = I c j) ∧ (∀ c j : Nat, ¬ (c = k ∧ j = 16) → L1 c j = L c j)
      | 246 => ∃ (lo : Int) (hi : Int) (m : Nat), nM = (1, (61 - m), 0) ∧ lsM = [some (zvr (k)), some (zvi (net)), none, some (zvi (mk lo.toNat)), some (zvi (mk hi.toNat)), some (zvi (m)), none, none] ∧ stM = [] ∧ R1 = R ∧ S1 = S ∧ (m ≤ n) ∧ (I1 k 17 = lo) ∧ (I1 k 18 = hi) ∧ (0 ≤ lo ∧ lo < hi ∧ hi < pc) ∧ ((-2147483648 ≤ mk lo.toNat ∧ mk lo.toNat ≤ 2147483647) ∧ -2147483648 ≤ mk hi.toNat ∧ mk hi.toNat ≤ 2147483647) ∧ (cuNx w pc net mk (60 * lo + hi)) ∧ (∀ p : Nat, p < m → I1 (k + 13) p = cuJm mk (60 * lo + hi) p) ∧ (∀ p : Nat, m ≤ p → p < n → I1 (k + 13) p = mk p) ∧ (∀ c j : Nat, ¬ (c = k ∧ j = 17) → ¬ (c = k ∧ j = 18) → ¬ c = k + 13 → I1 c j = I c j) ∧ (∀ c j : Nat, ¬ (c = k ∧ j = 16) → L1 c j = L c j)
      | _ => False, rfl, ?_, ⟨?_, ?_, ?_, True.intro⟩⟩
  · refine ⟨(2, (61 - (0 : Nat)), 99), [some (zvr (k)), some (zvi (net)), some (zvi ((0 : Int))), some (zvi ((0 : Nat))), none, none, none, none], ⟨rfl, rfl, rfl, rfl, rfl⟩, 0, 0, rfl, rfl, rfl, rfl, rfl, (by omega), cuNg_0, (fun _ => rfl), (fun c j h0 h1 h2 => rfl), (fun c j h0 => rfl)⟩
  · rintro nM lsM stM I1 L1 R1 S1 hz1 ⟨u, q, rfl, rfl, rfl, rfl, rfl, hqn, hq, hg13, fr, frL⟩
    have hub := cuNg_b hq
    refine And.intro (zDX hd 0 rfl) (zrd (v := n) ((fr k 2 (by omega) (by omega) (by omega)).trans hp0) ?_)
    refine And.intro ⟨(by omega), (by omega)⟩ ⟨fun h9 => ?_, fun h9 => ?_⟩
    · refine And.intro (by omega) ⟨fun h217 => ?_, fun h217 => ?_⟩
      · have t217 : 0 ≤ I1 k 17 ∧ I1 k 17 + 1 ≤ I1 k 18 ∧ I1 k 18 + 1 ≤ pc := (by have z := (hub.2 (by omega)).1; omega)
        refine And.intro (zDX hd 0 rfl) (zrdR (v := some (k + 13)) (zDR hd 12 rfl) ?_)
        refine And.intro (zDX hd 0 rfl) (fun v227 e227 r227 => ?_)
        refine And.intro (zDP hd 13 rfl rfl (by omega) (by omega)) (fun v230 e230 r230 => ?_)
        have f230 : v230 = mk (I1 k 17).toNat := (e230.trans ((congrArg (I1 (k + 13)) (show _ = (I1 k 17).toNat by omega)).trans ((hg13 _).trans (hgr (I1 k 17).toNat (by omega)))))
        refine And.intro (zDX hd 0 rfl) (zrdR (v := some (k + 13)) (zDR hd 12 rfl) ?_)
        refine And.intro (zDX hd 0 rfl) (fun v237 e237 r237 => ?_)
        refine And.intro (zDP hd 13 rfl rfl (by omega) (by omega)) (fun v240 e240 r240 => ?_)
        have f240 : v240 = mk (I1 k 18).toNat := (e240.trans ((congrArg (I1 (k + 13)) (show _ = (I1 k 18).toNat by omega)).trans ((hg13 _).trans (hgr (I1 k 18).toNat (by omega)))))
        refine ⟨(1, (61 - (0 : Nat)), 0), zlt6 (by omega), [some (zvr (k)), some (zvi (net)), none, some (zvi (mk (I1 k 17).toNat)), some (zvi (mk (I1 k 18).toNat)), some (zvi ((0 : Nat))), none, none], ⟨rfl, rfl, (congrArg (fun z => some (zvi z)) (by omega)), (congrArg (fun z => some (zvi z)) (by omega)), rfl, rfl⟩, (I1 k 17), (I1 k 18), 0, rfl, rfl, rfl, rfl, rfl, (by omega), rfl, rfl, (by omega), (by have z1 := r230; have z2 := r240; rw [f230] at z1; rw [f240] at z2; omega), (by rcases cuNg_e hq (show pc ≤ q by omega) with z | z; (exfalso; omega); exact z.2), (fun p h => absurd h (Nat.not_lt_zero p)), (fun p _ hp => (hg13 p).trans (hgr p hp)), (fun c j h0 h1 h2 => ((fr c j h0 h1 h2).trans rfl)), (fun c j h0 => ((frL c j h0).trans rfl))⟩
      · refine And.intro (Or.inl rfl) ?_
        refine hQ _ _ _ ?_ (fun h => by first | exact absurd h (by decide) | omega) (fun h p hp => by first | exact absurd h (by decide) | exact (hg13 p).trans (hgr p (by omega))) (fun h p hp => by first | exact absurd h (by decide) | (rw [hlo, hhi]; exact hg1 p (by omega))) (fun c j h0 h1 h2 => ((fr c j h0 h1 h2).trans rfl)) (fun c j h0 => ((frL c j h0).trans rfl))
        · first
          | (refine Or.inl ⟨rfl, ?_⟩
             rcases cuNg_e hq (show pc ≤ q by omega) with z | z
             · exact z.2
             · omega)
          | (refine Or.inr ⟨rfl, ?_⟩
             rw [hlo, hhi]
             exact hx)
    · refine ⟨(2, (61 - q), (61 - (0 : Nat))), zlt6 (by omega), [some (zvr (k)), some (zvi (net)), some (zvi (u)), some (zvi (q)), some (zvi ((0 : Nat))), none, none, none], ⟨rfl, rfl, rfl, rfl, rfl, rfl⟩, u, q, 0, rfl, rfl, rfl, rfl, rfl, (by clear hQ; grind [xu]), hq, hg13, (fun c j h0 h1 h2 => ((fr c j h0 h1 h2).trans rfl)), (fun c j h0 => ((frL c j h0).trans rfl))⟩
  · rintro nM lsM stM I1 L1 R1 S1 hz1 ⟨u, q, p, rfl, rfl, rfl, rfl, rfl, hqn, hq, hg13, fr, frL⟩
    have hub := cuNg_b hq
    refine And.intro ⟨(by omega), (by omega)⟩ ⟨fun h18 => ?_, fun h18 => ?_⟩
    · refine ⟨(2, (61 - (q + 1)), 99), zlt6 (by omega), [some (zvr (k)), some (zvi (net)), some (zvi (u)), some (zvi ((q + 1))), none, none, none, none], ⟨rfl, rfl, rfl, rfl, rfl⟩, u, (q + 1), rfl, rfl, rfl, rfl, rfl, (by omega), (cuNg_i hq (by omega)), hg13, (fun c j h0 h1 h2 => ((fr c j h0 h1 h2).trans rfl)), (fun c j h0 => ((frL c j h0).trans rfl))⟩
    · refine And.intro (zDX hd 0 rfl) ⟨_, sn_W_pln.up (by decide), ?_⟩
      refine ⟨_, w, pc, (p : Int), p, rfl, hS, hR, hd, (by first | exact (zPc_fr hPc (fun c j h => ((fr c j (by omega) (by omega) (by omega)).trans rfl)) (fun c j h => ((frL c j (by omega)).trans rfl))) | (clear hQ; grind [xu])), (by first | exact hG | (clear hQ; grind [xu])), (by omega), (by first | exact hpq | (clear hQ; grind [xu])), (by omega), ?_⟩
      intro v24o p24hv p24bhv2
      refine And.intro ⟨(by omega), (by omega)⟩ ⟨fun h28 => ?_, fun h28 => ?_⟩
      · refine ⟨(2, (61 - q), (61 - (p + 1))), zlt6 (by omega), [some (zvr (k)), some (zvi (net)), some (zvi (u)), some (zvi (q)), some (zvi ((p + 1))), none, none, none], ⟨rfl, rfl, rfl, rfl, rfl, rfl⟩, u, q, (p + 1), rfl, rfl, rfl, rfl, rfl, (by first | exact hqn | (clear hQ; grind [xu])), ?_, (fun c => by first | exact hg13 c | exact zxu (by omega) (zxu (by omega) (hg13 c))), (fun c j h0 h1 h2 => ((fr c j h0 h1 h2).trans rfl)), (fun c j h0 => ((frL c j h0).trans rfl))⟩
        · first
          | exact cuNg_s hq (fun z => by obtain ⟨z1, z2, z3, z4⟩ := z; have y := cuPla_c w pc p; have y2 := cuPla_c w pc q; omega)
          | exact cuNg_u hq ⟨by omega, by omega, by omega, by omega⟩ (by omega) (zxs (by omega) zxe) zxe (zxe.trans (by first | exact t121 | omega))
          | exact cuNg_k hq (by omega) (by omega)
      · have t28 : p < pc ∧ cg w p 1 = net := (by have z := cuPla_c w pc p; omega)
        refine And.intro (zDX hd 0 rfl) ⟨_, sn_W_pln.up (by decide), ?_⟩
        refine ⟨_, w, pc, (q : Int), q, rfl, hS, hR, hd, (by first | exact (zPc_fr hPc (fun c j h => ((fr c j (by omega) (by omega) (by omega)).trans rfl)) (fun c j h => ((frL c j (by omega)).trans rfl))) | (clear hQ; grind [xu])), (by first | exact hG | (clear hQ; grind [xu])), (by omega), (by first | exact hpq | (clear hQ; grind [xu])), (by omega), ?_⟩
        intro v33o p33hv p33bhv2
        refine And.intro ⟨(by omega), (by omega)⟩ ⟨fun h37 => ?_, fun h37 => ?_⟩
        · refine ⟨(2, (61 - q), (61 - (p + 1))), zlt6 (by omega), [some (zvr (k)), some (zvi (net)), some (zvi (u)), some (zvi (q)), some (zvi ((p + 1))), none, none, none], ⟨rfl, rfl, rfl, rfl, rfl, rfl⟩, u, q, (p + 1), rfl, rfl, rfl, rfl, rfl, (by first | exact hqn | (clear hQ; grind [xu])), ?_, (fun c => by first | exact hg13 c | exact zxu (by omega) (zxu (by omega) (hg13 c))), (fun c j h0 h1 h2 => ((fr c j h0 h1 h2).trans rfl)), (fun c j h0 => ((frL c j h0).trans rfl))⟩
          · first
            | exact cuNg_s hq (fun z => by obtain ⟨z1, z2, z3, z4⟩ := z; have y := cuPla_c w pc p; have y2 := cuPla_c w pc q; omega)
            | exact cuNg_u hq ⟨by omega, by omega, by omega, by omega⟩ (by omega) (zxs (by omega) zxe) zxe (zxe.trans (by first | exact t121 | omega))
            | exact cuNg_k hq (by omega) (by omega)
        · have t37 : q + 1 ≤ pc ∧ cg w q 1 = net := (by have z := cuPla_c w pc q; omega)
          refine And.intro (zDX hd 0 rfl) (zrdR (v := some (k + 13)) (zDR hd 12 rfl) ?_)
          refine And.intro (zDP hd 13 rfl rfl (by omega) (by omega)) (fun v46 e46 r46 => ?_)
          have f46 : v46 = mk p := (e46.trans ((congrArg (I1 (k + 13)) (show _ = p by omega)).trans ((hg13 p).trans (hgr p (by omega)))))
          refine And.intro (zDX hd 0 rfl) (zrdR (v := some (k + 13)) (zDR hd 12 rfl) ?_)
          refine And.intro (zDP hd 13 rfl rfl (by omega) (by omega)) (fun v52 e52 r52 => ?_)
          have f52 : v52 = mk q := (e52.trans ((congrArg (I1 (k + 13)) (show _ = q by omega)).trans ((hg13 q).trans (hgr q (by omega)))))
          refine And.intro ⟨r46, r52⟩ ⟨fun h53 => ?_, fun h53 => ?_⟩
          · refine And.intro (zDX hd 0 rfl) (zrdR (v := some (k + 4)) (zDR hd 3 rfl) ?_)
            refine And.intro (zDP hd 4 rfl rfl (by omega) (by omega)) (fun v65 e65 r65 => ?_)
            have f65 : v65 = cuE w (cuPx w p) 1 0 - cuEw w (cuPx w p) := (by refine Eq.trans e65 ?_; repeat (first | exact ((congrArg (L1 (k + 4)) (show _ = p by omega)).trans (hpi p (by omega)).2.1.1) | exact (frL _ _ (by omega)).trans ((congrArg (L (k + 4)) (show _ = p by omega)).trans (hpi p (by omega)).2.1.1) | refine zxu (by omega) ?_))
            have f65b : -300 ≤ v65 ∧ v65 ≤ 15000 := (by have z := (cuE_b (ax := 1) (e := 0) hG (cuPx_b (show p < cuNp w by omega)).1); have z2 := cuEw_b (w := w) (i := cuPx w p); omega)
            have f65bb : v65 = cuE w p 1 0 := (by have z : v65 = cuE w (cuPx w p) 1 0 - cuEw w (cuPx w p) := (by assumption); rw [(cuPq_p hpq).2 p (by omega), cuEw_0 (hpq.2.2 p (by omega))] at z; omega)
            have f65bbb : 0 ≤ v65 ∧ v65 ≤ 15000 := (by have z := cuE_b (ax := 1) (e := 0) hG (show p < w.length by have y := hpq.2.1; omega); omega)
            refine And.intro (zDX hd 0 rfl) (zrdR (v := some (k + 4)) (zDR hd 3 rfl) ?_)
            refine And.intro (zDP hd 4 rfl rfl (by omega) (by omega)) (fun v71 e71 r71 => ?_)
            have f71 : v71 = cuE w (cuPx w q) 1 0 - cuEw w (cuPx w q) := (by refine Eq.trans e71 ?_; repeat (first | exact ((congrArg (L1 (k + 4)) (show _ = q by omega)).trans (hpi q (by omega)).2.1.1) | exact (frL _ _ (by omega)).trans ((congrArg (L (k + 4)) (show _ = q by omega)).trans (hpi q (by omega)).2.1.1) | refine zxu (by omega) ?_))
            have f71b : -300 ≤ v71 ∧ v71 ≤ 15000 := (by have z := (cuE_b (ax := 1) (e := 0) hG (cuPx_b (show q < cuNp w by omega)).1); have z2 := cuEw_b (w := w) (i := cuPx w q); omega)
            have f71bb : v71 = cuE w q 1 0 := (by have z : v71 = cuE w (cuPx w q) 1 0 - cuEw w (cuPx w q) := (by assumption); rw [(cuPq_p hpq).2 q (by omega), cuEw_0 (hpq.2.2 q (by omega))] at z; omega)
            have f71bbb : 0 ≤ v71 ∧ v71 ≤ 15000 := (by have z := cuE_b (ax := 1) (e := 0) hG (show q < w.length by have y := hpq.2.1; omega); omega)
            refine And.intro (zDX hd 0 rfl) (zrdR (v := some (k + 4)) (zDR hd 3 rfl) ?_)
            refine And.intro (zDP hd 4 rfl rfl (by omega) (by omega)) (fun v79 e79 r79 => ?_)
            have f79 : v79 = cuE w (cuPx w p) 1 0 - cuEw w (cuPx w p) := (by refine Eq.trans e79 ?_; repeat (first | exact ((congrArg (L1 (k + 4)) (show _ = p by omega)).trans (hpi p (by omega)).2.1.1) | exact (frL _ _ (by omega)).trans ((congrArg (L (k + 4)) (show _ = p by omega)).trans (hpi p (by omega)).2.1.1) | refine zxu (by omega) ?_))
            have f79b : -300 ≤ v79 ∧ v79 ≤ 15000 := (by have z := (cuE_b (ax := 1) (e := 0) hG (cuPx_b (show p < cuNp w by omega)).1); have z2 := cuEw_b (w := w) (i := cuPx w p); omega)
            have f79bb : v79 = cuE w p 1 0 := (by have z : v79 = cuE w (cuPx w p) 1 0 - cuEw w (cuPx w p) := (by assumption); rw [(cuPq_p hpq).2 p (by omega), cuEw_0 (hpq.2.2 p (by omega))] at z; omega)
            have f79bbb : 0 ≤ v79 ∧ v79 ≤ 15000 := (by have z := cuE_b (ax := 1) (e := 0) hG (show p < w.length by have y := hpq.2.1; omega); omega)
            refine And.intro (zDX hd 0 rfl) (zrdR (v := some (k + 4)) (zDR hd 3 rfl) ?_)
            refine And.intro (zDP hd 4 rfl rfl (by omega) (by omega)) (fun v85 e85 r85 => ?_)
            have f85 : v85 = cuE w (cuPx w q) 1 0 - cuEw w (cuPx w q) := (by refine Eq.trans e85 ?_; repeat (first | exact ((congrArg (L1 (k + 4)) (show _ = q by omega)).trans (hpi q (by omega)).2.1.1) | exact (frL _ _ (by omega)).trans ((congrArg (L (k + 4)) (show _ = q by omega)).trans (hpi q (by omega)).2.1.1) | refine zxu (by omega) ?_))
            have f85b : -300 ≤ v85 ∧ v85 ≤ 15000 := (by have z := (cuE_b (ax := 1) (e := 0) hG (cuPx_b (show q < cuNp w by omega)).1); have z2 := cuEw_b (w := w) (i := cuPx w q); omega)
            have f85bb : v85 = cuE w q 1 0 := (by have z : v85 = cuE w (cuPx w q) 1 0 - cuEw w (cuPx w q) := (by assumption); rw [(cuPq_p hpq).2 q (by omega), cuEw_0 (hpq.2.2 q (by omega))] at z; omega)
            have f85bbb : 0 ≤ v85 ∧ v85 ≤ 15000 := (by have z := cuE_b (ax := 1) (e := 0) hG (show q < w.length by have y := hpq.2.1; omega); omega)
            have mu87 : -(16000 * 16000) ≤ (v65 - v71) * (v79 - v85) ∧ (v65 - v71) * (v79 - v85) ≤ 16000 * 16000 := zmbs (by omega) (by omega) (by omega) (by omega)
            refine And.intro (zDX hd 0 rfl) (zrdR (v := some (k + 5)) (zDR hd 4 rfl) ?_)
            refine And.intro (zDP hd 5 rfl rfl (by omega) (by omega)) (fun v94 e94 r94 => ?_)
            have f94 : v94 = cuE w (cuPx w p) 0 0 - cuEw w (cuPx w p) := (by refine Eq.trans e94 ?_; repeat (first | exact ((congrArg (L1 (k + 5)) (show _ = p by omega)).trans (hpi p (by omega)).2.1.2) | exact (frL _ _ (by omega)).trans ((congrArg (L (k + 5)) (show _ = p by omega)).trans (hpi p (by omega)).2.1.2) | refine zxu (by omega) ?_))
            have f94b : -300 ≤ v94 ∧ v94 ≤ 15000 := (by have z := (cuE_b (ax := 0) (e := 0) hG (cuPx_b (show p < cuNp w by omega)).1); have z2 := cuEw_b (w := w) (i := cuPx w p); omega)
            have f94bb : v94 = cuE w p 0 0 := (by have z : v94 = cuE w (cuPx w p) 0 0 - cuEw w (cuPx w p) := (by assumption); rw [(cuPq_p hpq).2 p (by omega), cuEw_0 (hpq.2.2 p (by omega))] at z; omega)
            have f94bbb : 0 ≤ v94 ∧ v94 ≤ 15000 := (by have z := cuE_b (ax := 0) (e := 0) hG (show p < w.length by have y := hpq.2.1; omega); omega)
            refine And.intro (zDX hd 0 rfl) (zrdR (v := some (k + 5)) (zDR hd 4 rfl) ?_)
            refine And.intro (zDP hd 5 rfl rfl (by omega) (by omega)) (fun v100 e100 r100 => ?_)
            have f100 : v100 = cuE w (cuPx w q) 0 0 - cuEw w (cuPx w q) := (by refine Eq.trans e100 ?_; repeat (first | exact ((congrArg (L1 (k + 5)) (show _ = q by omega)).trans (hpi q (by omega)).2.1.2) | exact (frL _ _ (by omega)).trans ((congrArg (L (k + 5)) (show _ = q by omega)).trans (hpi q (by omega)).2.1.2) | refine zxu (by omega) ?_))
            have f100b : -300 ≤ v100 ∧ v100 ≤ 15000 := (by have z := (cuE_b (ax := 0) (e := 0) hG (cuPx_b (show q < cuNp w by omega)).1); have z2 := cuEw_b (w := w) (i := cuPx w q); omega)
            have f100bb : v100 = cuE w q 0 0 := (by have z : v100 = cuE w (cuPx w q) 0 0 - cuEw w (cuPx w q) := (by assumption); rw [(cuPq_p hpq).2 q (by omega), cuEw_0 (hpq.2.2 q (by omega))] at z; omega)
            have f100bbb : 0 ≤ v100 ∧ v100 ≤ 15000 := (by have z := cuE_b (ax := 0) (e := 0) hG (show q < w.length by have y := hpq.2.1; omega); omega)
            refine And.intro (zDX hd 0 rfl) (zrdR (v := some (k + 5)) (zDR hd 4 rfl) ?_)
            refine And.intro (zDP hd 5 rfl rfl (by omega) (by omega)) (fun v108 e108 r108 => ?_)
            have f108 : v108 = cuE w (cuPx w p) 0 0 - cuEw w (cuPx w p) := (by refine Eq.trans e108 ?_; repeat (first | exact ((congrArg (L1 (k + 5)) (show _ = p by omega)).trans (hpi p (by omega)).2.1.2) | exact (frL _ _ (by omega)).trans ((congrArg (L (k + 5)) (show _ = p by omega)).trans (hpi p (by omega)).2.1.2) | refine zxu (by omega) ?_))
            have f108b : -300 ≤ v108 ∧ v108 ≤ 15000 := (by have z := (cuE_b (ax := 0) (e := 0) hG (cuPx_b (show p < cuNp w by omega)).1); have z2 := cuEw_b (w := w) (i := cuPx w p); omega)
            have f108bb : v108 = cuE w p 0 0 := (by have z : v108 = cuE w (cuPx w p) 0 0 - cuEw w (cuPx w p) := (by assumption); rw [(cuPq_p hpq).2 p (by omega), cuEw_0 (hpq.2.2 p (by omega))] at z; omega)
            have f108bbb : 0 ≤ v108 ∧ v108 ≤ 15000 := (by have z := cuE_b (ax := 0) (e := 0) hG (show p < w.length by have y := hpq.2.1; omega); omega)
            refine And.intro (zDX hd 0 rfl) (zrdR (v := some (k + 5)) (zDR hd 4 rfl) ?_)
            refine And.intro (zDP hd 5 rfl rfl (by omega) (by omega)) (fun v114 e114 r114 => ?_)
            have f114 : v114 = cuE w (cuPx w q) 0 0 - cuEw w (cuPx w q) := (by refine Eq.trans e114 ?_; repeat (first | exact ((congrArg (L1 (k + 5)) (show _ = q by omega)).trans (hpi q (by omega)).2.1.2) | exact (frL _ _ (by omega)).trans ((congrArg (L (k + 5)) (show _ = q by omega)).trans (hpi q (by omega)).2.1.2) | refine zxu (by omega) ?_))
            have f114b : -300 ≤ v114 ∧ v114 ≤ 15000 := (by have z := (cuE_b (ax := 0) (e := 0) hG (cuPx_b (show q < cuNp w by omega)).1); have z2 := cuEw_b (w := w) (i := cuPx w q); omega)
            have f114bb : v114 = cuE w q 0 0 := (by have z : v114 = cuE w (cuPx w q) 0 0 - cuEw w (cuPx w q) := (by assumption); rw [(cuPq_p hpq).2 q (by omega), cuEw_0 (hpq.2.2 q (by omega))] at z; omega)
            have f114bbb : 0 ≤ v114 ∧ v114 ≤ 15000 := (by have z := cuE_b (ax := 0) (e := 0) hG (show q < w.length by have y := hpq.2.1; omega); omega)
            have mu116 : -(16000 * 16000) ≤ (v94 - v100) * (v108 - v114) ∧ (v94 - v100) * (v108 - v114) ≤ 16000 * 16000 := zmbs (by omega) (by omega) (by omega) (by omega)
            refine And.intro (by omega) ⟨fun h121 => ?_, fun h121 => ?_⟩
            · have t121 : (v65 - v71) * (v79 - v85) + (v94 - v100) * (v108 - v114) = cuSq w p q 0 := (by have z := cuSq_d (w := w) (a := p) (b := q) hG (by have y := hpq.2.1; omega) (by have y := hpq.2.1; omega) (by have y := hpq.2.2 p (by omega); omega) (by have y := hpq.2.2 q (by omega); omega); rw [show v65 = cuE w p 1 0 by omega, show v71 = cuE w q 1 0 by omega, show v79 = cuE w p 1 0 by omega, show v85 = cuE w q 1 0 by omega, show v94 = cuE w p 0 0 by omega, show v100 = cuE w q 0 0 by omega, show v108 = cuE w p 0 0 by omega, show v114 = cuE w q 0 0 by omega]; exact z)
              refine And.intro (zRb rfl) (zbt rfl ?_)
              refine And.intro (zDX hd 0 rfl) ⟨_, zW6i (by omega), ?_⟩
              refine And.intro (zDX hd 0 rfl) ⟨_, (zWi (by omega)), ?_⟩
              refine And.intro (zDX hd 0 rfl) ⟨_, (zWi (by omega)), ?_⟩
              refine ⟨(2, (61 - q), (61 - (p + 1))), zlt6 (by omega), [some (zvr (k)), some (zvi (net)), some (zvi ((1 : Int))), some (zvi (q)), some (zvi ((p + 1))), none, none, none], ⟨rfl, rfl, rfl, rfl, rfl, rfl⟩, 1, q, (p + 1), rfl, rfl, rfl, rfl, rfl, (by first | exact hqn | (clear hQ; grind [xu])), ?_, (fun c => by first | exact hg13 c | exact zxu (by omega) (zxu (by omega) (hg13 c))), (fun c j h0 h1 h2 => (zxcj h1 (zxcj h0 ((fr c j h0 h1 h2).trans rfl)))), (fun c j h0 => (zxcj h0 ((frL c j h0).trans rfl)))⟩
              · first
                | exact cuNg_s hq (fun z => by obtain ⟨z1, z2, z3, z4⟩ := z; have y := cuPla_c w pc p; have y2 := cuPla_c w pc q; omega)
                | exact cuNg_u hq ⟨by omega, by omega, by omega, by omega⟩ (by omega) (zxs (by omega) zxe) zxe (zxe.trans (by first | exact t121 | omega))
                | exact cuNg_k hq (by omega) (by omega)
            · have t121 : (v65 - v71) * (v79 - v85) + (v94 - v100) * (v108 - v114) = cuSq w p q 0 := (by have z := cuSq_d (w := w) (a := p) (b := q) hG (by have y := hpq.2.1; omega) (by have y := hpq.2.1; omega) (by have y := hpq.2.2 p (by omega); omega) (by have y := hpq.2.2 q (by omega); omega); rw [show v65 = cuE w p 1 0 by omega, show v71 = cuE w q 1 0 by omega, show v79 = cuE w p 1 0 by omega, show v85 = cuE w q 1 0 by omega, show v94 = cuE w p 0 0 by omega, show v100 = cuE w q 0 0 by omega, show v108 = cuE w p 0 0 by omega, show v114 = cuE w q 0 0 by omega]; exact z)
              refine And.intro (zDX hd 0 rfl) (fun v127 e127 r127 => ?_)
              refine ⟨_, _, ⟨zW6i (by omega), zW6i r127⟩, fun z130 c130 => ?_⟩
              refine And.intro c130.2.2 ⟨fun h131 => ?_, fun h131 => ?_⟩
              · refine And.intro (zRb rfl) (zbt rfl ?_)
                refine And.intro (zDX hd 0 rfl) ⟨_, zW6i (by omega), ?_⟩
                refine And.intro (zDX hd 0 rfl) ⟨_, (zWi (by omega)), ?_⟩
                refine And.intro (zDX hd 0 rfl) ⟨_, (zWi (by omega)), ?_⟩
                refine ⟨(2, (61 - q), (61 - (p + 1))), zlt6 (by omega), [some (zvr (k)), some (zvi (net)), some (zvi ((1 : Int))), some (zvi (q)), some (zvi ((p + 1))), none, none, none], ⟨rfl, rfl, rfl, rfl, rfl, rfl⟩, 1, q, (p + 1), rfl, rfl, rfl, rfl, rfl, (by first | exact hqn | (clear hQ; grind [xu])), ?_, (fun c => by first | exact hg13 c | exact zxu (by omega) (zxu (by omega) (hg13 c))), (fun c j h0 h1 h2 => (zxcj h1 (zxcj h0 ((fr c j h0 h1 h2).trans rfl)))), (fun c j h0 => (zxcj h0 ((frL c j h0).trans rfl)))⟩
                · first
                  | exact cuNg_s hq (fun z => by obtain ⟨z1, z2, z3, z4⟩ := z; have y := cuPla_c w pc p; have y2 := cuPla_c w pc q; omega)
                  | exact cuNg_u hq ⟨by omega, by omega, by omega, by omega⟩ (by omega) (zxs (by omega) zxe) zxe (zxe.trans (by first | exact t121 | omega))
                  | exact cuNg_k hq (by omega) (by omega)
              · refine And.intro (zDX hd 0 rfl) (fun v137 e137 r137 => ?_)
                refine ⟨_, _, ⟨zW6i (by omega), zW6i r137⟩, fun z140 c140 => ?_⟩
                refine And.intro c140.2.2 ⟨fun h141 => ?_, fun h141 => ?_⟩
                · refine And.intro (zRb rfl) (zbf rfl ?_)
                  refine ⟨(2, (61 - q), (61 - (p + 1))), zlt6 (by omega), [some (zvr (k)), some (zvi (net)), some (zvi (u)), some (zvi (q)), some (zvi ((p + 1))), none, none, none], ⟨rfl, rfl, rfl, rfl, rfl, rfl⟩, u, q, (p + 1), rfl, rfl, rfl, rfl, rfl, (by first | exact hqn | (clear hQ; grind [xu])), ?_, (fun c => by first | exact hg13 c | exact zxu (by omega) (zxu (by omega) (hg13 c))), (fun c j h0 h1 h2 => ((fr c j h0 h1 h2).trans rfl)), (fun c j h0 => ((frL c j h0).trans rfl))⟩
                  · first
                    | exact cuNg_s hq (fun z => by obtain ⟨z1, z2, z3, z4⟩ := z; have y := cuPla_c w pc p; have y2 := cuPla_c w pc q; omega)
                    | exact cuNg_u hq ⟨by omega, by omega, by omega, by omega⟩ (by omega) (zxs (by omega) zxe) zxe (zxe.trans (by first | exact t121 | omega))
                    | exact cuNg_k hq (by omega) (by omega)
                · refine And.intro (zDX hd 0 rfl) (fun v147 e147 r147 => ?_)
                  refine And.intro ⟨(by omega), r147⟩ ⟨fun h150 => ?_, fun h150 => ?_⟩
                  · refine And.intro (zRb rfl) (zbt rfl ?_)
                    refine And.intro (zDX hd 0 rfl) ⟨_, zW6i (by omega), ?_⟩
                    refine And.intro (zDX hd 0 rfl) ⟨_, (zWi (by omega)), ?_⟩
                    refine And.intro (zDX hd 0 rfl) ⟨_, (zWi (by omega)), ?_⟩
                    refine ⟨(2, (61 - q), (61 - (p + 1))), zlt6 (by omega), [some (zvr (k)), some (zvi (net)), some (zvi ((1 : Int))), some (zvi (q)), some (zvi ((p + 1))), none, none, none], ⟨rfl, rfl, rfl, rfl, rfl, rfl⟩, 1, q, (p + 1), rfl, rfl, rfl, rfl, rfl, (by first | exact hqn | (clear hQ; grind [xu])), ?_, (fun c => by first | exact hg13 c | exact zxu (by omega) (zxu (by omega) (hg13 c))), (fun c j h0 h1 h2 => (zxcj h1 (zxcj h0 ((fr c j h0 h1 h2).trans rfl)))), (fun c j h0 => (zxcj h0 ((frL c j h0).trans rfl)))⟩
                    · first
                      | exact cuNg_s hq (fun z => by obtain ⟨z1, z2, z3, z4⟩ := z; have y := cuPla_c w pc p; have y2 := cuPla_c w pc q; omega)
                      | exact cuNg_u hq ⟨by omega, by omega, by omega, by omega⟩ (by omega) (zxs (by omega) zxe) zxe (zxe.trans (by first | exact t121 | omega))
                      | exact cuNg_k hq (by omega) (by omega)
                  · refine And.intro (zDX hd 0 rfl) (fun v156 e156 r156 => ?_)
                    refine And.intro ⟨(by omega), r156⟩ ⟨fun h159 => ?_, fun h159 => ?_⟩
                    · refine And.intro (zRb rfl) (zbf rfl ?_)
                      refine ⟨(2, (61 - q), (61 - (p + 1))), zlt6 (by omega), [some (zvr (k)), some (zvi (net)), some (zvi (u)), some (zvi (q)), some (zvi ((p + 1))), none, none, none], ⟨rfl, rfl, rfl, rfl, rfl, rfl⟩, u, q, (p + 1), rfl, rfl, rfl, rfl, rfl, (by first | exact hqn | (clear hQ; grind [xu])), ?_, (fun c => by first | exact hg13 c | exact zxu (by omega) (zxu (by omega) (hg13 c))), (fun c j h0 h1 h2 => ((fr c j h0 h1 h2).trans rfl)), (fun c j h0 => ((frL c j h0).trans rfl))⟩
                      · first
                        | exact cuNg_s hq (fun z => by obtain ⟨z1, z2, z3, z4⟩ := z; have y := cuPla_c w pc p; have y2 := cuPla_c w pc q; omega)
                        | exact cuNg_u hq ⟨by omega, by omega, by omega, by omega⟩ (by omega) (zxs (by omega) zxe) zxe (zxe.trans (by first | exact t121 | omega))
                        | exact cuNg_k hq (by omega) (by omega)
                    · refine And.intro (zDX hd 0 rfl) (fun v164 e164 r164 => ?_)
                      refine And.intro ⟨(by omega), r164⟩ ⟨fun h167 => ?_, fun h167 => ?_⟩
                      · refine And.intro (zRb rfl) (zbf rfl ?_)
                        refine ⟨(2, (61 - q), (61 - (p + 1))), zlt6 (by omega), [some (zvr (k)), some (zvi (net)), some (zvi (u)), some (zvi (q)), some (zvi ((p + 1))), none, none, none], ⟨rfl, rfl, rfl, rfl, rfl, rfl⟩, u, q, (p + 1), rfl, rfl, rfl, rfl, rfl, (by first | exact hqn | (clear hQ; grind [xu])), ?_, (fun c => by first | exact hg13 c | exact zxu (by omega) (zxu (by omega) (hg13 c))), (fun c j h0 h1 h2 => ((fr c j h0 h1 h2).trans rfl)), (fun c j h0 => ((frL c j h0).trans rfl))⟩
                        · first
                          | exact cuNg_s hq (fun z => by obtain ⟨z1, z2, z3, z4⟩ := z; have y := cuPla_c w pc p; have y2 := cuPla_c w pc q; omega)
                          | exact cuNg_u hq ⟨by omega, by omega, by omega, by omega⟩ (by omega) (zxs (by omega) zxe) zxe (zxe.trans (by first | exact t121 | omega))
                          | exact cuNg_k hq (by omega) (by omega)
                      · refine And.intro (zRb rfl) (zbt rfl ?_)
                        refine And.intro (zDX hd 0 rfl) ⟨_, zW6i (by omega), ?_⟩
                        refine And.intro (zDX hd 0 rfl) ⟨_, (zWi (by omega)), ?_⟩
                        refine And.intro (zDX hd 0 rfl) ⟨_, (zWi (by omega)), ?_⟩
                        refine ⟨(2, (61 - q), (61 - (p + 1))), zlt6 (by omega), [some (zvr (k)), some (zvi (net)), some (zvi ((1 : Int))), some (zvi (q)), some (zvi ((p + 1))), none, none, none], ⟨rfl, rfl, rfl, rfl, rfl, rfl⟩, 1, q, (p + 1), rfl, rfl, rfl, rfl, rfl, (by first | exact hqn | (clear hQ; grind [xu])), ?_, (fun c => by first | exact hg13 c | exact zxu (by omega) (zxu (by omega) (hg13 c))), (fun c j h0 h1 h2 => (zxcj h1 (zxcj h0 ((fr c j h0 h1 h2).trans rfl)))), (fun c j h0 => (zxcj h0 ((frL c j h0).trans rfl)))⟩
                        · first
                          | exact cuNg_s hq (fun z => by obtain ⟨z1, z2, z3, z4⟩ := z; have y := cuPla_c w pc p; have y2 := cuPla_c w pc q; omega)
                          | exact cuNg_u hq ⟨by omega, by omega, by omega, by omega⟩ (by omega) (zxs (by omega) zxe) zxe (zxe.trans (by first | exact t121 | omega))
                          | exact cuNg_k hq (by omega) (by omega)
          · refine ⟨(2, (61 - q), (61 - (p + 1))), zlt6 (by omega), [some (zvr (k)), some (zvi (net)), some (zvi (u)), some (zvi (q)), some (zvi ((p + 1))), none, none, none], ⟨rfl, rfl, rfl, rfl, rfl, rfl⟩, u, q, (p + 1), rfl, rfl, rfl, rfl, rfl, (by first | exact hqn | (clear hQ; grind [xu])), ?_, (fun c => by first | exact hg13 c | exact zxu (by omega) (zxu (by omega) (hg13 c))), (fun c j h0 h1 h2 => ((fr c j h0 h1 h2).trans rfl)), (fun c j h0 => ((frL c j h0).trans rfl))⟩
            · first
              | exact cuNg_s hq (fun z => by obtain ⟨z1, z2, z3, z4⟩ := z; have y := cuPla_c w pc p; have y2 := cuPla_c w pc q; omega)
              | exact cuNg_u hq ⟨by omega, by omega, by omega, by omega⟩ (by omega) (zxs (by omega) zxe) zxe (zxe.trans (by first | exact t121 | omega))
              | exact cuNg_k hq (by omega) (by omega)
  · rintro nM lsM stM I1 L1 R1 S1 hz1 ⟨lo, hi, m, rfl, rfl, rfl, rfl, rfl, hm, hlo, hhi, hlb, hmr, hx, hg1, hg2, fr, frL⟩
    refine And.intro (zDX hd 0 rfl) (zrd (v := n) ((fr k 2 (by omega) (by omega) (by omega)).trans hp0) ?_)
    refine And.intro ⟨(by omega), (by omega)⟩ ⟨fun h252 => ?_, fun h252 => ?_⟩
    · refine And.intro (Or.inr rfl) ?_
      refine hQ _ _ _ ?_ (fun h => by first | exact absurd h (by decide) | omega) (fun h p hp => by first | exact absurd h (by decide) | exact (hg13 p).trans (hgr p (by omega))) (fun h p hp => by first | exact absurd h (by decide) | (rw [hlo, hhi]; exact hg1 p (by omega))) (fun c j h0 h1 h2 => ((fr c j h0 h1 h2).trans rfl)) (fun c j h0 => ((frL c j h0).trans rfl))
      · first
        | (refine Or.inl ⟨rfl, ?_⟩
           rcases cuNg_e hq (show pc ≤ q by omega) with z | z
           · exact z.2
           · omega)
        | (refine Or.inr ⟨rfl, ?_⟩
           rw [hlo, hhi]
           exact hx)
    · refine And.intro (zDX hd 0 rfl) (zrdR (v := some (k + 13)) (zDR hd 12 rfl) ?_)
      refine And.intro (zDX hd 0 rfl) (zrdR (v := some (k + 13)) (zDR hd 12 rfl) ?_)
      refine And.intro (zDP hd 13 rfl rfl (by omega) (by omega)) (fun v267 e267 r267 => ?_)
      have f267 : v267 = mk m := (e267.trans ((congrArg (I1 (k + 13)) (show _ = m by omega)).trans (hg2 m (Nat.le_refl m) (by omega))))
      refine And.intro ⟨r267, (by omega)⟩ ⟨fun h270 => ?_, fun h270 => ?_⟩
      · refine And.intro (zDX hd 0 rfl) (zrdR (v := some (k + 13)) (zDR hd 12 rfl) ?_)
        refine And.intro (zDP hd 13 rfl rfl (by omega) (by omega)) (fun v283 e283 r283 => ?_)
        have f283 : v283 = mk m := (e283.trans ((congrArg (I1 (k + 13)) (show _ = m by omega)).trans (hg2 m (Nat.le_refl m) (by omega))))
        refine And.intro ⟨(by show 40 ≤ _; omega), (zDP hd 13 rfl rfl (by omega) (by omega))⟩ ⟨_, (zWi r283), ?_⟩
        refine ⟨(1, (61 - (m + 1)), 0), zlt6 (by omega), [some (zvr (k)), some (zvi (net)), none, some (zvi (mk lo.toNat)), some (zvi (mk hi.toNat)), some (zvi ((m + 1))), none, none], ⟨rfl, rfl, rfl, rfl, rfl, rfl⟩, lo, hi, (m + 1), rfl, rfl, rfl, rfl, rfl, (by omega), (zxu (by omega) hlo), (zxu (by omega) hhi), (by omega), hmr, hx, ?_, (fun p h1 h2 => zxs (by omega) (hg2 p (by omega) h2)), (fun c j h0 h1 h2 => (zxu h2 ((fr c j h0 h1 h2).trans rfl))), (fun c j h0 => ((frL c j h0).trans rfl))⟩
        · intro p hp
          by_cases e : p = m
          · subst e
            first
            | exact (zxe' (by omega)).trans (cuJm_y hlb.1 (by omega) (by omega)).symm
            | exact (zxe' (by omega)).trans (Eq.trans (by omega) (cuJm_n hlb.1 (by omega) (by omega)).symm)
          · exact zxs (by omega) (hg1 p (by omega))
      · refine And.intro ⟨(by show 40 ≤ _; omega), (zDP hd 13 rfl rfl (by omega) (by omega))⟩ ⟨_, (zWi (by omega)), ?_⟩
        refine ⟨(1, (61 - (m + 1)), 0), zlt6 (by omega), [some (zvr (k)), some (zvi (net)), none, some (zvi (mk lo.toNat)), some (zvi (mk hi.toNat)), some (zvi ((m + 1))), none, none], ⟨rfl, rfl, rfl, rfl, rfl, rfl⟩, lo, hi, (m + 1), rfl, rfl, rfl, rfl, rfl, (by omega), (zxu (by omega) hlo), (zxu (by omega) hhi), (by omega), hmr, hx, ?_, (fun p h1 h2 => zxs (by omega) (hg2 p (by omega) h2)), (fun c j h0 h1 h2 => (zxu h2 ((fr c j h0 h1 h2).trans rfl))), (fun c j h0 => ((frL c j h0).trans rfl))⟩
        · intro p hp
          by_cases e : p = m
          · subst e
            first
            | exact (zxe' (by omega)).trans (cuJm_y hlb.1 (by omega) (by omega)).symm
            | exact (zxe' (by omega)).trans (Eq.trans (by omega) (cuJm_n hlb.1 (by omega) (by omega)).symm)
          · exact zxs (by omega) (hg1 p (by omega)))
