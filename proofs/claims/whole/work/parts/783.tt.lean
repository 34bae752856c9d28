/-! tt -/
def T_G_ptb : ZT := fun args I L R S Q => ∃ (E : EvE) (i : Nat) (n : Nat) (f : Nat → Int) (b : Int), args = [zvr 234, zvi b] ∧ (zSh S) ∧ (zRs R) ∧ (zRv E I L) ∧ (b = i ∧ i ≤ 15) ∧ (I 266 i = n ∧ n ≤ 12) ∧ (∀ j : Nat, j < 72 → L 265 (72 * i + j) = f j) ∧ ∀ (I' : ZI) (L' : ZI), (zRv (evRs E n f) I' L') → (∀ c j : Nat, ¬ (c = 234 ∧ j = 28) → ¬ (c = 234 ∧ j = 44) → I' c j = I c j) → (∀ c j : Nat, ¬ c = 251 → L' c j = L c j) → Q none I' L' R S
theorem sn_G_ptb : ZSnd 1 12 37 T_G_ptb := ZSnd.loops (zT12_37 0) (by
  rintro args I L R S Q hz ⟨E, i, n, f, b, rfl, hS, hR, hV, hb, hn, hf, hQ⟩
  obtain ⟨hV1, ⟨hV2, hV2b⟩, hV3, ⟨hV4, hV4b⟩, hV5⟩ := id hV
  refine ⟨[12], fun nM tM lsM stM I1 L1 R1 S1 => match tM with
      | 12 => ∃ (k : Nat), nM = ((73 - k), 0, 0) ∧ lsM = [some (zvr (234)), some (zvi (b)), some (zvi (k))] ∧ stM = [] ∧ R1 = R ∧ S1 = S ∧ (k ≤ 72) ∧ (I1 234 28 = n) ∧ (∀ q : Nat, q < k → L1 251 q = f q) ∧ (∀ c j : Nat, ¬ (c = 234 ∧ j = 28) → I1 c j = I c j) ∧ (∀ c j : Nat, ¬ c = 251 → L1 c j = L c j)
      | _ => False, rfl, ?_, ⟨?_, True.intro⟩⟩
  · refine And.intro (zA_234 hS) (zrdR (v := some 266) (zR_234_63 hR) ?_)
    refine And.intro (zP_266 hS (by omega) (by omega)) (fun v6 e6 r6 => ?_)
    have f6 : v6 = n := (e6.trans ((congrArg (I 266) (by omega)).trans hn.1))
    refine And.intro (zA_234 hS) ⟨_, (zWi r6), ?_⟩
    refine ⟨((73 - (0 : Nat)), 0, 0), [some (zvr (234)), some (zvi (b)), some (zvi ((0 : Nat)))], ⟨rfl, rfl, rfl, rfl⟩, 0, rfl, rfl, rfl, rfl, rfl, (by omega), (zxe.trans (by omega)), (fun q h => absurd h (Nat.not_lt_zero q)), (fun c j h0 => (zxcj h0 rfl)), (fun c j h0 => rfl)⟩
  · rintro nM lsM stM I1 L1 R1 S1 hz1 ⟨k, rfl, rfl, rfl, rfl, rfl, hk, h28, hq, fr, frL⟩
    refine And.intro ⟨(by omega), (zRb rfl)⟩ ⟨fun h15 => ?_, fun h15 => ?_⟩
    · refine And.intro ⟨(zA_234 hS), (Or.inr rfl)⟩ ?_
      refine hQ _ _ ⟨fun v hv => (frL _ _ (by omega)).trans (hV1 v hv), ⟨(zxs (by omega) h28), hn.2⟩, fun j hj => hq j (by omega), ⟨(zxs (by omega) ((fr _ _ (by omega)).trans hV4)), hV4b⟩, fun j hj => (frL _ _ (by omega)).trans (hV5 j hj)⟩ (fun c j h0 h1 => (zxcj h1 ((fr c j h0).trans rfl))) (fun c j h0 => ((frL c j h0).trans rfl))
    · refine And.intro (zA_234 hS) (zrdR (v := some 251) (zR_234_29 hR) ?_)
      refine And.intro (zA_234 hS) (zrdR (v := some 265) (zR_234_62 hR) ?_)
      refine And.intro (zP_265 hS (by omega) (by omega)) (fun v33 e33 r33 => ?_)
      have f33 : v33 = f k := (e33.trans ((frL _ _ (by omega)).trans ((congrArg (L 265) (by omega)).trans (hf k (by omega)))))
      refine And.intro ⟨(zx0 rfl), (zP_251 hS (by omega) (by omega))⟩ ⟨_, zW6i r33, ?_⟩
      refine ⟨((73 - (k + 1)), 0, 0), zlt6 (by omega), [some (zvr (234)), some (zvi (b)), some (zvi ((k + 1)))], ⟨rfl, rfl, rfl, rfl⟩, (k + 1), rfl, rfl, rfl, rfl, rfl, (by omega), h28, ?_, (fun c j h0 => ((fr c j h0).trans rfl)), (fun c j h0 => (zxu h0 ((frL c j h0).trans rfl)))⟩
      · intro q hq2
        by_cases e9 : q = k
        · rw [e9]; exact (zxe' (by omega)).trans f33
        · exact zxs (by omega) (hq q (by omega)))
def T_G_rai : ZT := fun args I L R S Q => ∃ (hs : List HdT) (E : EvE) (cl : Nat) (k : Int) (p : Int) (w : Int), args = [zvr 234, zvi k, zvi p, zvi w] ∧ (zSh S) ∧ (zRs R) ∧ (I 234 55 = hs.length) ∧ (hs.length ≤ 15) ∧ (zHs hs I L) ∧ (zRv E I L) ∧ (I 234 53 = cl) ∧ (cl ≤ 2) ∧ (r32 k) ∧ (r32 p) ∧ (r32 w) ∧ ∀ (I' : ZI) (L' : ZI), (zRe k p w (raH k p w hs E cl) I I' L') → (I' 234 55 = ((raH k p w hs E cl).2.1.length : Nat)) → (I' 234 53 = ((raH k p w hs E cl).2.2.2.1 : Nat)) → ((raH k p w hs E cl).2.1.length ≤ 15 ∧ (raH k p w hs E cl).2.2.2.1 ≤ 2) → (∀ c j : Nat, ¬ (c = 234 ∧ j = 28) → ¬ (c = 234 ∧ j = 44) → ¬ (c = 234 ∧ j = 53) → ¬ (c = 234 ∧ j = 55) → ¬ (c = 234 ∧ j = 46) → ¬ (c = 234 ∧ j = 47) → ¬ (c = 234 ∧ j = 48) → ¬ (c = 234 ∧ j = 49) → ¬ (c = 234 ∧ j = 50) → ¬ (c = 234 ∧ j = 52) → ¬ c = 259 → ¬ c = 262 → ¬ c = 263 → ¬ c = 264 → I' c j = I c j) → (∀ c j : Nat, ¬ c = 251 → L' c j = L c j) → Q none I' L' R S
theorem sn_G_rai : ZSnd 2 12 38 T_G_rai := ZSnd.loops (zT12_38 1) (by
  rintro args I L R S Q hz ⟨hs, E, cl, k, p, w, rfl, hS, hR, h55, hl, hH, hV, h53, hcl, hk, hp, hw, hQ⟩
  refine ⟨[3], fun nM tM lsM stM I1 L1 R1 S1 => match tM with
      | 3 => ∃ (hs1 : List HdT) (E1 : EvE) (cl1 : Nat), nM = ((hs1.length + 1), 0, 0) ∧ lsM = [some (zvr (234)), some (zvi (k)), some (zvi (p)), some (zvi (w)), some (zvi (k)), none] ∧ stM = [] ∧ R1 = R ∧ S1 = S ∧ (I1 234 55 = hs1.length) ∧ (hs1.length ≤ 15) ∧ (zHs hs1 I1 L1) ∧ (zRv E1 I1 L1) ∧ (I1 234 53 = cl1) ∧ (cl1 ≤ 2) ∧ (raH k p w hs1 E1 cl1 = raH k p w hs E cl) ∧ (∀ c j : Nat, ¬ (c = 234 ∧ j = 28) → ¬ (c = 234 ∧ j = 44) → ¬ (c = 234 ∧ j = 53) → ¬ (c = 234 ∧ j = 55) → I1 c j = I c j) ∧ (∀ c j : Nat, ¬ c = 251 → L1 c j = L c j)
      | _ => False, rfl, ?_, ⟨?_, True.intro⟩⟩
  · refine ⟨((hs.length + 1), 0, 0), [some (zvr (234)), some (zvi (k)), some (zvi (p)), some (zvi (w)), some (zvi (k)), none], ⟨rfl, rfl, rfl, rfl, rfl, rfl⟩, hs, E, cl, rfl, rfl, rfl, rfl, rfl, (Eq.trans (b := ((hs.length) : Int)) h55 (by omega)), (by omega), hH, hV, h53, (by omega), rfl, (fun c j h0 h1 h2 h3 => rfl), (fun c j h0 => rfl)⟩
  · rintro nM lsM stM I1 L1 R1 S1 hz1 ⟨hs1, E1, cl1, rfl, rfl, rfl, rfl, rfl, i55, hl1, hH1, hV1, i53, hcl1, hra, fr, frL⟩
    refine And.intro (zA_234 hS) (zrd (v := (hs1.length)) i55 ?_)
    refine And.intro (by omega) ⟨fun h7 => ?_, fun h7 => ?_⟩
    · refine And.intro (zA_234 hS) ⟨_, (zWi (by omega)), ?_⟩
      refine And.intro (zA_234 hS) ⟨_, (zWi (by omega)), ?_⟩
      refine And.intro (zA_234 hS) ⟨_, (zWi (by omega)), ?_⟩
      refine And.intro (zA_234 hS) ⟨_, (zWi (zRb rfl)), ?_⟩
      refine And.intro ⟨(zA_234 hS), (Or.inr rfl)⟩ ?_
      refine hQ _ _ ?_ (by rw [← hra]; first | (rw [raH_0 (by omega)]; exact (show _ = ((hs1.length) : Int) from i55).trans (by show _ = ((0 : Nat) : Int); omega)) | (rw [raH_1t (by omega) (by omega)]; exact (show _ = ((hs1.length) : Int) from i55).trans (by rw [hs_len]; omega))) (by rw [← hra]; first | (rw [raH_0 (by omega)]; exact (show _ = (cl1 : Int) from i53)) | (rw [raH_1t (by omega) (by omega)]; exact (show _ = (cl1 : Int) from i53).trans (by omega))) (by rw [← hra]; first | (rw [raH_0 (by omega)]; exact ⟨Nat.zero_le 15, hcl1⟩) | (rw [raH_1t (by omega) (by omega)]; exact ⟨by rw [hs_len]; omega, t7bb⟩)) (fun c j h0 h1 h2 h3 h4 h5 h6 h7 h8 h9 h10 h11 h12 h13 => (zxcj h7 (zxcj h8 (zxcj h6 (zxcj h5 (zxcj h4 ((fr c j h0 h1 h2 h3).trans rfl))))))) (fun c j h0 => ((frL c j h0).trans rfl))
      · first
        | (rw [← hra, raH_0 (by omega)]
           refine ⟨Or.inr ⟨rfl, ⟨(show _ = (k : Int) from rfl), (show _ = (p : Int) from rfl), (show _ = (w : Int) from rfl)⟩, ⟨(show _ = (1 : Int) from rfl), (show _ = (1 : Int) from rfl)⟩, (zxcj (by omega) (zxcj (by omega) (zxcj (by omega) (zxcj (by omega) (zxcj (by omega) ((fr 234 _ (by omega) (by omega) (by omega) (by omega)).trans rfl))))))⟩, True.intro, zRv_fr hV1 (fun c j h => (zxcj (by omega) (zxcj (by omega) (zxcj (by omega) (zxcj (by omega) (zxcj (by omega) rfl)))))) (fun c j h => rfl)⟩)
        | (rw [← hra, raH_1t (by omega) (by omega)]
           refine ⟨Or.inl ⟨rfl, NOREAD.trans f121, fun j h1 h2 => (zxcj (by omega) (zxcj (by omega) (zxcj (by omega) (zxcj (by omega) (zxcj (by omega) ((fr 234 _ (by omega) (by omega) (by omega) (by omega)).trans rfl))))))⟩, ⟨⟨⟨zxu (by omega) (zxu (by omega) (zxu (by omega) (zxu (by omega) (zxu (by omega) (zxe' (by rw [hs_drop]; omega)))))), (zxu (by omega) (zxu (by omega) (zxu (by omega) (zxu (by omega) (zxu (by omega) rfl))))).trans ((congrArg (I1 260) (by rw [hs_drop])).trans t7b.1.1.2.1), fun q => absurd (show (10 : Int) = 9 from q) (by decide), zxu (by omega) (zxu (by omega) (zxu (by omega) (zxu (by omega) (zxe' (by rw [hs_drop]; omega)))))⟩, fun _ => ⟨zxu (by omega) (zxu (by omega) (zxu (by omega) (zxe' (by rw [hs_drop]; omega)))), zxu (by omega) (zxu (by omega) (zxe' (by rw [hs_drop]; omega)))⟩, fun q => absurd (show (10 : Int) = 7 from q) (by decide), t7bb⟩, zHs_fr t7b.2 (fun c j h1 h2 h3 => by rw [hs_drop] at h3; exact (zxcj (by omega) (zxcj (by omega) (zxcj (by omega) (zxcj (by omega) (zxcj (by omega) rfl)))))) (fun j hj => rfl)⟩, zRv_fr hV1 (fun c j h => (zxcj (by omega) (zxcj (by omega) (zxcj (by omega) (zxcj (by omega) (zxcj (by omega) rfl)))))) (fun c j h => rfl)⟩)
    · have t7 : 1 ≤ hs1.length := (by omega)
      have t7b : zHd (hs1.length - 1) (hdH hs1) I1 L1 ∧ zHs (hs1.drop 1) I1 L1 := (zHs_h hH1 (by omega))
      have t7bb : (hdH hs1).2.1 ≤ 2 := t7b.1.2.2.2
      refine And.intro (zA_234 hS) (zrd (v := (hs1.length)) i55 ?_)
      refine And.intro (zA_234 hS) ⟨_, (zWi (by omega)), ?_⟩
      refine And.intro (zA_234 hS) (zrd (v := ((hs1.length) - 1)) rfl ?_)
      refine And.intro (zA_234 hS) (zrdR (v := some 260) (zR_234_57 hR) ?_)
      refine And.intro (zP_260 hS (by omega) (by omega)) (fun v33 e33 r33 => ?_)
      have f33 : v33 = (hdH hs1).2.1 := (e33.trans (zxu (by omega) ((congrArg (I1 260) (show _ = hs1.length - 1 by omega)).trans t7b.1.1.2.1)))
      refine And.intro (zA_234 hS) ⟨_, (zWi r33), ?_⟩
      refine And.intro (zA_234 hS) (zrdR (v := some 259) (zR_234_56 hR) ?_)
      refine And.intro (zP_259 hS (by omega) (by omega)) (fun v43 e43 r43 => ?_)
      have f43 : v43 = (hdH hs1).1 := (e43.trans (zxu (by omega) (zxu (by omega) ((congrArg (I1 259) (show _ = hs1.length - 1 by omega)).trans t7b.1.1.1))))
      refine And.intro ⟨r43, (zRb rfl)⟩ ⟨fun h46 => ?_, fun h46 => ?_⟩
      · refine And.intro (zA_234 hS) (zrdR (v := some 259) (zR_234_56 hR) ?_)
        refine And.intro (zP_259 hS (by omega) (by omega)) (fun v61 e61 r61 => ?_)
        have f61 : v61 = (hdH hs1).1 := (e61.trans ((zxu (by omega) (zxu (by omega) rfl)).trans ((congrArg (I1 259) (show _ = hs1.length - 1 by omega)).trans t7b.1.1.1)))
        refine And.intro ⟨r61, (zRb rfl)⟩ ⟨fun h64 => ?_, fun h64 => ?_⟩
        · refine And.intro (zA_234 hS) (zrdR (v := some 259) (zR_234_56 hR) ?_)
          refine And.intro ⟨(zx0 rfl), (zP_259 hS (by omega) (by omega))⟩ ⟨_, (zWi (zRb rfl)), ?_⟩
          refine And.intro (zA_234 hS) (zrdR (v := some 262) (zR_234_59 hR) ?_)
          refine And.intro ⟨(zx0 rfl), (zP_262 hS (by omega) (by omega))⟩ ⟨_, (zWi (by omega)), ?_⟩
          refine And.intro (zA_234 hS) (zrdR (v := some 263) (zR_234_60 hR) ?_)
          refine And.intro ⟨(zx0 rfl), (zP_263 hS (by omega) (by omega))⟩ ⟨_, (zWi (by omega)), ?_⟩
          refine And.intro (zA_234 hS) (zrdR (v := some 264) (zR_234_61 hR) ?_)
          refine And.intro ⟨(zx0 rfl), (zP_264 hS (by omega) (by omega))⟩ ⟨_, (zWi (by omega)), ?_⟩
          refine And.intro (zA_234 hS) (zrd (v := ((hs1.length) - 1)) rfl ?_)
          refine And.intro (zA_234 hS) ⟨_, (zWi (by omega)), ?_⟩
          refine And.intro (zA_234 hS) (zrdR (v := some 261) (zR_234_58 hR) ?_)
          refine And.intro (zP_261 hS (by omega) (by omega)) (fun v121 e121 r121 => ?_)
          have f121 : v121 = (hdH hs1).2.2.1 := (e121.trans ((zxu (by omega) (zxu (by omega) (zxu (by omega) (zxu (by omega) (zxu (by omega) (zxu (by omega) (zxu (by omega) rfl))))))).trans ((congrArg (I1 261) (show _ = hs1.length - 1 by omega)).trans (t7b.1.1.2.2.1 (by omega)))))
          refine And.intro (zA_234 hS) ⟨_, (zWi r121), ?_⟩
          refine hQ _ _ ?_ (by rw [← hra]; first | (rw [raH_0 (by omega)]; exact (show _ = ((((hs1.length) - 1) + 1) : Int) from rfl).trans (by show _ = ((0 : Nat) : Int); omega)) | (rw [raH_1t (by omega) (by omega)]; exact (show _ = ((((hs1.length) - 1) + 1) : Int) from rfl).trans (by rw [hs_len]; omega))) (by rw [← hra]; first | (rw [raH_0 (by omega)]; exact (show _ = (v33 : Int) from rfl)) | (rw [raH_1t (by omega) (by omega)]; exact (show _ = (v33 : Int) from rfl).trans (by omega))) (by rw [← hra]; first | (rw [raH_0 (by omega)]; exact ⟨Nat.zero_le 15, hcl1⟩) | (rw [raH_1t (by omega) (by omega)]; exact ⟨by rw [hs_len]; omega, t7bb⟩)) (fun c j h0 h1 h2 h3 h4 h5 h6 h7 h8 h9 h10 h11 h12 h13 => (zxcj h9 (zxcj h3 (zxu h13 (zxu h12 (zxu h11 (zxu h10 (zxcj h2 (zxcj h3 ((fr c j h0 h1 h2 h3).trans rfl)))))))))) (fun c j h0 => ((frL c j h0).trans rfl))
          · first
            | (rw [← hra, raH_0 (by omega)]
               refine ⟨Or.inr ⟨rfl, ⟨NOREAD, NOREAD, NOREAD⟩, ⟨NOREAD, NOREAD⟩, (zxcj (by omega) (zxcj (by omega) (zxcj (by omega) (zxcj (by omega) (zxcj (by omega) (zxcj (by omega) (zxcj (by omega) (zxcj (by omega) ((fr 234 _ (by omega) (by omega) (by omega) (by omega)).trans rfl)))))))))⟩, True.intro, zRv_fr hV1 (fun c j h => (zxcj (by omega) (zxcj (by omega) (zxcj (by omega) (zxcj (by omega) (zxcj (by omega) (zxcj (by omega) (zxcj (by omega) (zxcj (by omega) rfl))))))))) (fun c j h => rfl)⟩)
            | (rw [← hra, raH_1t (by omega) (by omega)]
               refine ⟨Or.inl ⟨rfl, (show _ = (v121 : Int) from rfl).trans f121, fun j h1 h2 => (zxcj (by omega) (zxcj (by omega) (zxcj (by omega) (zxcj (by omega) (zxcj (by omega) (zxcj (by omega) (zxcj (by omega) (zxcj (by omega) ((fr 234 _ (by omega) (by omega) (by omega) (by omega)).trans rfl)))))))))⟩, ⟨⟨⟨zxu (by omega) (zxu (by omega) (zxu (by omega) (zxu (by omega) (zxu (by omega) (zxe' (by rw [hs_drop]; omega)))))), (zxu (by omega) (zxu (by omega) (zxu (by omega) (zxu (by omega) (zxu (by omega) (zxu (by omega) (zxu (by omega) (zxu (by omega) rfl)))))))).trans ((congrArg (I1 260) (by rw [hs_drop])).trans t7b.1.1.2.1), fun q => absurd (show (10 : Int) = 9 from q) (by decide), zxu (by omega) (zxu (by omega) (zxu (by omega) (zxu (by omega) (zxe' (by rw [hs_drop]; omega)))))⟩, fun _ => ⟨zxu (by omega) (zxu (by omega) (zxu (by omega) (zxe' (by rw [hs_drop]; omega)))), zxu (by omega) (zxu (by omega) (zxe' (by rw [hs_drop]; omega)))⟩, fun q => absurd (show (10 : Int) = 7 from q) (by decide), t7bb⟩, zHs_fr t7b.2 (fun c j h1 h2 h3 => by rw [hs_drop] at h3; exact (zxcj (by omega) (zxcj (by omega) (zxcj (by omega) (zxcj (by omega) (zxcj (by omega) (zxcj (by omega) (zxcj (by omega) (zxcj (by omega) rfl))))))))) (fun j hj => rfl)⟩, zRv_fr hV1 (fun c j h => (zxcj (by omega) (zxcj (by omega) (zxcj (by omega) (zxcj (by omega) (zxcj (by omega) (zxcj (by omega) (zxcj (by omega) (zxcj (by omega) rfl))))))))) (fun c j h => rfl)⟩)
        · refine ⟨(((hs1.drop 1).length + 1), 0, 0), (zlt6 (by rw [hs_drop]; omega)), [some (zvr (234)), some (zvi (k)), some (zvi (p)), some (zvi (w)), some (zvi (k)), none], ⟨rfl, rfl, rfl, rfl, rfl, rfl⟩, (hs1.drop 1), E1, (hdH hs1).2.1, rfl, rfl, rfl, rfl, rfl, ((show _ = (((hs1.length) - 1) : Int) from rfl).trans (by rw [hs_drop]; omega)), (by rw [hs_drop]; omega), (zHs_fr t7b.2 (fun c j h1 h2 h3 => (zxcj (by omega) (zxcj (by omega) rfl))) (fun j hj => rfl)), (zRv_fr hV1 (fun c j h => (zxcj (by omega) (zxcj (by omega) rfl))) (fun c j h => rfl)), ((show _ = (v33 : Int) from rfl).trans (by omega)), (by omega), ((raH_1o (by omega) (by omega) (by omega)).symm.trans hra), (fun c j h0 h1 h2 h3 => (zxcj h2 (zxcj h3 ((fr c j h0 h1 h2 h3).trans rfl)))), (fun c j h0 => ((frL c j h0).trans rfl))⟩
      · refine And.intro (zA_234 hS) ⟨_, sn_G_ptb.up (by decide), ?_⟩
        refine ⟨E1, (hs1.length - 1), (hdH hs1).2.2.2.2.2.2.1, (hdH hs1).2.2.2.2.2.2.2, (((hs1.length) - 1) : Int), rfl, hS, hR, (zRv_fr hV1 (fun c j h => (zxcj (by omega) (zxcj (by omega) rfl))) (fun c j h => rfl)), (by omega), ⟨(zxu (by omega) (zxu (by omega) rfl)).trans (t7b.1.2.2.1 (by omega)).1.1, (t7b.1.2.2.1 (by omega)).1.2⟩, (t7b.1.2.2.1 (by omega)).2, ?_⟩
        intro I52o L52o p52hV2 p52bfr p52bbfrL
        refine And.intro (zA_234 hS) (zrdR (v := some 259) (zR_234_56 hR) ?_)
        refine And.intro (zP_259 hS (by omega) (by omega)) (fun v61 e61 r61 => ?_)
        have f61 : v61 = (hdH hs1).1 := (e61.trans (((p52bfr 259 _ (by omega) (by omega)).trans (zxu (by omega) (zxu (by omega) rfl))).trans ((congrArg (I1 259) (show _ = hs1.length - 1 by omega)).trans t7b.1.1.1)))
        refine And.intro ⟨r61, (zRb rfl)⟩ ⟨fun h64 => ?_, fun h64 => ?_⟩
        · exact False.elim (by omega)
        · refine ⟨(((hs1.drop 1).length + 1), 0, 0), (zlt6 (by rw [hs_drop]; omega)), [some (zvr (234)), some (zvi (k)), some (zvi (p)), some (zvi (w)), some (zvi (k)), none], ⟨rfl, rfl, rfl, rfl, rfl, rfl⟩, (hs1.drop 1), (evRs E1 (hdH hs1).2.2.2.2.2.2.1 (hdH hs1).2.2.2.2.2.2.2), (hdH hs1).2.1, rfl, rfl, rfl, rfl, rfl, ((show _ = (((hs1.length) - 1) : Int) from ((p52bfr 234 55 (by omega) (by omega)).trans rfl)).trans (by rw [hs_drop]; omega)), (by rw [hs_drop]; omega), (zHs_fr t7b.2 (fun c j h1 h2 h3 => ((p52bfr c j (by omega) (by omega)).trans (zxcj (by omega) (zxcj (by omega) rfl)))) (fun j hj => ((p52bbfrL 265 _ (by omega)).trans rfl))), p52hV2, ((show _ = (v33 : Int) from ((p52bfr 234 53 (by omega) (by omega)).trans rfl)).trans (by omega)), (by omega), ((raH_1a (by omega) (by omega)).symm.trans hra), (fun c j h0 h1 h2 h3 => ((p52bfr c j h0 h1).trans (zxcj h2 (zxcj h3 ((fr c j h0 h1 h2 h3).trans rfl))))), (fun c j h0 => ((p52bbfrL c j h0).trans ((frL c j h0).trans rfl)))⟩)
