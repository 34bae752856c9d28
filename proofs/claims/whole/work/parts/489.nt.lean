/-! nt -/
def T_V_txt : ZT := fun args I L R S Q => ∃ (k : Nat) (c : Nat → Int) (n : Nat) (p : Int) (p_ : Nat) (mk : Int) (fd : Nat) (wd : Nat), args = [zvr k, zvi p] ∧ (zDy zT20 zF20 k R S) ∧ (zRM k c n I) ∧ (tOk c n) ∧ (p = p_ ∧ p_ ≤ 5000) ∧ (I k 15 = mk) ∧ (0 ≤ mk ∧ mk ≤ 1) ∧ (I k 17 = fd) ∧ (fd ≤ 199) ∧ (I k 21 = wd) ∧ (wd ≤ 1) ∧ (I k 18 = -1) ∧ ∀ (v : Int) (I' : ZI), (I' k 18 = tXf c p_) → (tXf c p_ = -1 → v = tXe c p_) → (0 ≤ v ∧ v ≤ 5100) → (mk = 1 → tXf c p_ = -1 → I' (k + 5) (2 * fd + wd) = tXl c p_ ∧ ∀ i, i < tXl c p_ → I' (k + 6) (80 * fd + 40 * wd + i) = tLt c p_ i) → (∀ c j : Nat, ¬ (c = k ∧ j = 18) → ¬ (c = k + 5 ∧ (mk = 1 ∧ j = 2 * fd + wd)) → ¬ (c = k + 6 ∧ (mk = 1 ∧ 80 * fd + 40 * wd ≤ j ∧ j < 80 * fd + 40 * wd + 40)) → I' c j = I c j) → Q (some (zvi (v))) I' L R S
theorem sn_V_txt : ZSnd 2 20 37 T_V_txt := ZSnd.loops (zT20_37 1) (by
  rintro args I L R S Q hz ⟨k, c, n, p, p_, mk, fd, wd, rfl, hD, hX, hc, hp, hmk, hmk2, hfd, hfd2, hwd, hwd2, hf0, hQ⟩
  obtain ⟨x1, x2⟩ := id hX
  have hn4 := hc.1
  have hk40 := hD.1
  refine ⟨[23], fun nM tM lsM stM I1 L1 R1 S1 => match tM with
      | 23 => ∃ (m : Nat) (q : Nat) (f : Int), nM = ((41 - m), (1 - (f + 1)).toNat, 0) ∧ lsM = [some (zvr (k)), some (zvi (p_)), some (zvi (q)), some (zvi (m)), none, none] ∧ stM = [] ∧ L1 = L ∧ R1 = R ∧ S1 = S ∧ (c p_ = 34) ∧ (m ≤ 40) ∧ (q = tPo c p_ m) ∧ (p_ + 1 + m ≤ q ∧ q ≤ p_ + 1 + 2 * m) ∧ (I1 k 18 = f) ∧ ((f = -1 ∧ ∀ i, i < m → ¬ tXs c p_ i) ∨ (0 ≤ f ∧ f ≤ 9000 ∧ tXf c p_ = f)) ∧ (mk = 1 → ∀ i, i < m → I1 (k + 6) (80 * fd + 40 * wd + i) = tLt c p_ i) ∧ (∀ c j : Nat, ¬ (c = k ∧ j = 18) → ¬ (c = k + 6 ∧ (mk = 1 ∧ 80 * fd + 40 * wd ≤ j ∧ j < 80 * fd + 40 * wd + 40)) → I1 c j = I c j)
      | _ => False, rfl, ?_, ⟨?_, True.intro⟩⟩
  · refine And.intro (zDX hD 0 rfl) ⟨_, sn_V_c.up (by decide), ?_⟩
    refine ⟨k, c, n, (p : Int), p_, rfl, hD, (by first | exact (zRM_fr hX (fun c j h => rfl)) | (clear hQ; grind [xu])), (by first | exact hc | (clear hQ; grind [xu])), (by omega), ?_⟩
    intro v2o p2hv p2bhv2
    refine And.intro ⟨(by omega), (zRb rfl)⟩ ⟨fun h7 => ?_, fun h7 => ?_⟩
    · refine ⟨((41 - (0 : Nat)), (1 - (((-1) : Int) + 1)).toNat, 0), [some (zvr (k)), some (zvi (p_)), some (zvi ((p_ + 1))), some (zvi ((0 : Nat))), none, none], ⟨rfl, (congrArg (fun z => some (zvi z)) (by omega)), (congrArg (fun z => some (zvi z)) (by omega)), rfl, rfl⟩, 0, (p_ + 1), (-1), rfl, rfl, rfl, rfl, rfl, rfl, (by omega), (by omega), rfl, (by omega), (rfl.trans hf0), (Or.inl ⟨rfl, fun i h => absurd h (Nat.not_lt_zero i)⟩), (fun _ i h => absurd h (Nat.not_lt_zero i)), (fun c j h0 h1 => rfl)⟩
    · refine And.intro (zDX hD 0 rfl) (Exists.intro _ (And.intro (zinl_ok (zT20_9 0)) (And.intro rfl ?_)))
      refine And.intro (zDX hD 0 rfl) (zrd (v := (-1)) hf0 ?_)
      refine And.intro ⟨(zRb rfl), (zRb rfl)⟩ (zbf rfl ?_)
      refine And.intro (zDX hD 0 rfl) ⟨_, (zWi (by omega)), ?_⟩
      refine hQ _ _ ?_ ?_ (by omega) ?_ (fun c j h0 h1 h2 => (zxcj h0 rfl))
      · first
        | exact zxe.trans ((by omega : _ = ((p_ : Nat) : Int)).trans (tXf_n (by omega)).symm)
        | (rcases hst with w | w
           · first
             | (exfalso; omega)
             | exact (zxcj (by omega) rfl).trans (hfv.trans (w.1.trans (tXf_q h0 hq (by omega) w.2 (by omega)).1.symm))
           · first
             | (exfalso; omega)
             | exact (zxcj (by omega) rfl).trans (hfv.trans w.2.2.symm))
      · intro h9
        first
        | (exfalso; rw [tXf_n (by omega)] at h9; omega)
        | (rcases hst with w | w
           · first
             | (exfalso; omega)
             | (rw [(tXf_q h0 hq (by omega) w.2 (by omega)).2.1]; omega)
           · exfalso; omega)
      · intro h8 h9
        first
        | (exfalso; omega)
        | (exfalso; rw [tXf_n (by omega)] at h9; omega)
        | (rcases hst with w | w
           · first
             | (exfalso; omega)
             | (rw [(tXf_q h0 hq (by omega) w.2 (by omega)).2.2]
                exact ⟨zxe' (by omega), fun i hi => (zxu (by omega) rfl : _ = I1 (k + 6) _).trans (hl h8 i hi)⟩)
           · exfalso; omega)
  · rintro nM lsM stM I1 L1 R1 S1 hz1 ⟨m, q, f, rfl, rfl, rfl, rfl, rfl, rfl, h0, hm, hq, hqb, hfv, hst, hl, fr⟩
    have pos := tPo_s hq
    have let_ := tLt_s hq
    have cq := hc.2.1 q
    have cq1 := hc.2.1 (q + 1)
    have cq2 := hc.2.2 q
    have cq3 := hc.2.2 (q + 1)
    refine And.intro (zDX hD 0 rfl) (zrd (v := f) hfv ?_)
    refine And.intro ⟨(by omega), (zRb rfl)⟩ ⟨fun h28 => ?_, fun h28 => ?_⟩
    · refine And.intro (zDX hD 0 rfl) (zrd (v := mk) ((fr k 15 (by omega) (by omega)).trans hmk) ?_)
      refine And.intro (by omega) ⟨fun h187 => ?_, fun h187 => ?_⟩
      · refine hQ _ _ ?_ ?_ (by omega) ?_ (fun c j h0 h1 h2 => ((fr c j (by omega) (by omega)).trans rfl))
        · first
          | exact zxe.trans ((by omega : _ = ((p_ : Nat) : Int)).trans (tXf_n (by omega)).symm)
          | (rcases hst with w | w
             · first
               | (exfalso; omega)
               | exact rfl.trans (hfv.trans (w.1.trans (tXf_q h0 hq (by omega) w.2 (by omega)).1.symm))
             · first
               | (exfalso; omega)
               | exact rfl.trans (hfv.trans w.2.2.symm))
        · intro h9
          first
          | (exfalso; rw [tXf_n (by omega)] at h9; omega)
          | (rcases hst with w | w
             · first
               | (exfalso; omega)
               | (rw [(tXf_q h0 hq (by omega) w.2 (by omega)).2.1]; omega)
             · exfalso; omega)
        · intro h8 h9
          first
          | (exfalso; omega)
          | (exfalso; rw [tXf_n (by omega)] at h9; omega)
          | (rcases hst with w | w
             · first
               | (exfalso; omega)
               | (rw [(tXf_q h0 hq (by omega) w.2 (by omega)).2.2]
                  exact ⟨zxe' (by omega), fun i hi => (zxu (by omega) rfl : _ = I1 (k + 6) _).trans (hl h8 i hi)⟩)
             · exfalso; omega)
      · refine And.intro (zDX hD 0 rfl) (zrdR (v := some (k + 5)) (zDR hD 4 rfl) ?_)
        refine And.intro (zDX hD 0 rfl) (zrd (v := fd) ((fr k 17 (by omega) (by omega)).trans hfd) ?_)
        refine And.intro (zDX hD 0 rfl) (zrd (v := wd) ((fr k 21 (by omega) (by omega)).trans hwd) ?_)
        refine And.intro ⟨(by show 40 ≤ _; omega), (zDP hD 5 rfl rfl (by omega) (by omega))⟩ ⟨_, (zWi (by omega)), ?_⟩
        refine hQ _ _ ?_ ?_ (by omega) ?_ (fun c j h0 h1 h2 => (zxcj (by omega) ((fr c j (by omega) (by omega)).trans rfl)))
        · first
          | exact zxe.trans ((by omega : _ = ((p_ : Nat) : Int)).trans (tXf_n (by omega)).symm)
          | (rcases hst with w | w
             · first
               | (exfalso; omega)
               | exact (zxcj (by omega) rfl).trans (hfv.trans (w.1.trans (tXf_q h0 hq (by omega) w.2 (by omega)).1.symm))
             · first
               | (exfalso; omega)
               | exact (zxcj (by omega) rfl).trans (hfv.trans w.2.2.symm))
        · intro h9
          first
          | (exfalso; rw [tXf_n (by omega)] at h9; omega)
          | (rcases hst with w | w
             · first
               | (exfalso; omega)
               | (rw [(tXf_q h0 hq (by omega) w.2 (by omega)).2.1]; omega)
             · exfalso; omega)
        · intro h8 h9
          first
          | (exfalso; omega)
          | (exfalso; rw [tXf_n (by omega)] at h9; omega)
          | (rcases hst with w | w
             · first
               | (exfalso; omega)
               | (rw [(tXf_q h0 hq (by omega) w.2 (by omega)).2.2]
                  exact ⟨zxe' (by omega), fun i hi => (zxu (by omega) rfl : _ = I1 (k + 6) _).trans (hl h8 i hi)⟩)
             · exfalso; omega)
    · refine And.intro (zDX hD 0 rfl) ⟨_, sn_V_c.up (by decide), ?_⟩
      refine ⟨k, c, n, (q : Int), q, rfl, hD, (by first | exact (zRM_fr hX (fun c j h => ((fr c j (by omega) (by omega)).trans rfl))) | (clear hQ; grind [xu])), (by first | exact hc | (clear hQ; grind [xu])), (by omega), ?_⟩
      intro v33o p33hv p33bhv2
      refine And.intro ⟨(by omega), (zRb rfl)⟩ ⟨fun h38 => ?_, fun h38 => ?_⟩
      · refine And.intro (zDX hD 0 rfl) (zrd (v := mk) ((fr k 15 (by omega) (by omega)).trans hmk) ?_)
        refine And.intro (by omega) ⟨fun h187 => ?_, fun h187 => ?_⟩
        · refine hQ _ _ ?_ ?_ (by omega) ?_ (fun c j h0 h1 h2 => ((fr c j (by omega) (by omega)).trans rfl))
          · first
            | exact zxe.trans ((by omega : _ = ((p_ : Nat) : Int)).trans (tXf_n (by omega)).symm)
            | (rcases hst with w | w
               · first
                 | (exfalso; omega)
                 | exact rfl.trans (hfv.trans (w.1.trans (tXf_q h0 hq (by omega) w.2 (by omega)).1.symm))
               · first
                 | (exfalso; omega)
                 | exact rfl.trans (hfv.trans w.2.2.symm))
          · intro h9
            first
            | (exfalso; rw [tXf_n (by omega)] at h9; omega)
            | (rcases hst with w | w
               · first
                 | (exfalso; omega)
                 | (rw [(tXf_q h0 hq (by omega) w.2 (by omega)).2.1]; omega)
               · exfalso; omega)
          · intro h8 h9
            first
            | (exfalso; omega)
            | (exfalso; rw [tXf_n (by omega)] at h9; omega)
            | (rcases hst with w | w
               · first
                 | (exfalso; omega)
                 | (rw [(tXf_q h0 hq (by omega) w.2 (by omega)).2.2]
                    exact ⟨zxe' (by omega), fun i hi => (zxu (by omega) rfl : _ = I1 (k + 6) _).trans (hl h8 i hi)⟩)
               · exfalso; omega)
        · refine And.intro (zDX hD 0 rfl) (zrdR (v := some (k + 5)) (zDR hD 4 rfl) ?_)
          refine And.intro (zDX hD 0 rfl) (zrd (v := fd) ((fr k 17 (by omega) (by omega)).trans hfd) ?_)
          refine And.intro (zDX hD 0 rfl) (zrd (v := wd) ((fr k 21 (by omega) (by omega)).trans hwd) ?_)
          refine And.intro ⟨(by show 40 ≤ _; omega), (zDP hD 5 rfl rfl (by omega) (by omega))⟩ ⟨_, (zWi (by omega)), ?_⟩
          refine hQ _ _ ?_ ?_ (by omega) ?_ (fun c j h0 h1 h2 => (zxcj (by omega) ((fr c j (by omega) (by omega)).trans rfl)))
          · first
            | exact zxe.trans ((by omega : _ = ((p_ : Nat) : Int)).trans (tXf_n (by omega)).symm)
            | (rcases hst with w | w
               · first
                 | (exfalso; omega)
                 | exact (zxcj (by omega) rfl).trans (hfv.trans (w.1.trans (tXf_q h0 hq (by omega) w.2 (by omega)).1.symm))
               · first
                 | (exfalso; omega)
                 | exact (zxcj (by omega) rfl).trans (hfv.trans w.2.2.symm))
          · intro h9
            first
            | (exfalso; rw [tXf_n (by omega)] at h9; omega)
            | (rcases hst with w | w
               · first
                 | (exfalso; omega)
                 | (rw [(tXf_q h0 hq (by omega) w.2 (by omega)).2.1]; omega)
               · exfalso; omega)
          · intro h8 h9
            first
            | (exfalso; omega)
            | (exfalso; rw [tXf_n (by omega)] at h9; omega)
            | (rcases hst with w | w
               · first
                 | (exfalso; omega)
                 | (rw [(tXf_q h0 hq (by omega) w.2 (by omega)).2.2]
                    exact ⟨zxe' (by omega), fun i hi => (zxu (by omega) rfl : _ = I1 (k + 6) _).trans (hl h8 i hi)⟩)
               · exfalso; omega)
      · refine And.intro (zDX hD 0 rfl) ⟨_, sn_V_c.up (by decide), ?_⟩
        refine ⟨k, c, n, (q : Int), q, rfl, hD, (by first | exact (zRM_fr hX (fun c j h => ((fr c j (by omega) (by omega)).trans rfl))) | (clear hQ; grind [xu])), (by first | exact hc | (clear hQ; grind [xu])), (by omega), ?_⟩
        intro v43o p43hv p43bhv2
        refine And.intro ⟨(by omega), (zRb rfl)⟩ ⟨fun h48 => ?_, fun h48 => ?_⟩
        · refine And.intro (zRb rfl) (zbt rfl ?_)
          refine And.intro (zDX hD 0 rfl) ⟨_, sn_V_c.up (by decide), ?_⟩
          refine ⟨k, c, n, (q : Int), q, rfl, hD, (by first | exact (zRM_fr hX (fun c j h => ((fr c j (by omega) (by omega)).trans rfl))) | (clear hQ; grind [xu])), (by first | exact hc | (clear hQ; grind [xu])), (by omega), ?_⟩
          intro v75o p75hv p75bhv2
          refine And.intro ⟨(by omega), (zRb rfl)⟩ ⟨fun h83 => ?_, fun h83 => ?_⟩
          · refine And.intro (zDX hD 0 rfl) (Exists.intro _ (And.intro (zinl_ok (zT20_9 0)) (And.intro rfl ?_)))
            refine And.intro (zDX hD 0 rfl) (zrd (v := f) hfv ?_)
            refine And.intro ⟨(by omega), (zRb rfl)⟩ ⟨(fun h5_98 => False.elim (by omega)), fun h5_98 => ?_⟩
            refine And.intro (zDX hD 0 rfl) ⟨_, (zWi (by omega)), ?_⟩
            refine ⟨((41 - m), (1 - ((q : Int) + 1)).toNat, 0), zlt6 (by omega), [some (zvr (k)), some (zvi (p_)), some (zvi (q)), some (zvi (m)), none, none], ⟨rfl, rfl, rfl, rfl, rfl⟩, m, q, (q : Int), rfl, rfl, rfl, rfl, rfl, rfl, h0, (by omega), (by first | exact hq | rfl), (by by_cases e : c q = 92; (have e2 := pos.1 e; omega); (have e2 := pos.2 e; omega)), (by first | exact zxe.trans (by omega) | exact (zxcj (by omega) rfl).trans (hfv.trans (by omega))), ?_, ?_, (fun c j h0 h1 => (zxcj h0 ((fr c j (by omega) (by omega)).trans rfl)))⟩
            · rcases hst with w | w
              · first
                | exact Or.inr ⟨by omega, by omega, tXf_a h0 hq (by omega) w.2 (by omega) (by omega)⟩
                | exact Or.inr ⟨by omega, by omega, tXf_b h0 hq (by omega) w.2 (by omega) (by omega) (by omega) (by omega)⟩
                | exact Or.inl ⟨by omega, tXs_up w.2 (tXs_n hq (by omega) (by omega) (by omega) (by omega))⟩
              · exfalso; omega
            · first
              | exact hl
              | (intro h8 i hi
                 by_cases e : i = m
                 · subst e
                   exact zxe.trans (by by_cases e : c q = 92; (rw [let_.1 e]; omega); (rw [let_.2 e]; omega))
                 · exact (zxs (by omega) rfl : _ = I1 (k + 6) _).trans (hl h8 i (by omega)))
              | (intro h8
                 exfalso; omega)
              | (intro h8 i hi
                 exact (zxcj (by omega) rfl).trans (hl h8 i hi))
          · refine And.intro (zDX hD 0 rfl) ⟨_, sn_V_c.up (by decide), ?_⟩
            refine ⟨k, c, n, (q : Int), q, rfl, hD, (by first | exact (zRM_fr hX (fun c j h => ((fr c j (by omega) (by omega)).trans rfl))) | (clear hQ; grind [xu])), (by first | exact hc | (clear hQ; grind [xu])), (by omega), ?_⟩
            intro v88o p88hv p88bhv2
            refine And.intro ⟨(by omega), (zRb rfl)⟩ ⟨fun h93 => ?_, fun h93 => ?_⟩
            · refine And.intro (zRb rfl) (zbt rfl ?_)
              refine And.intro (zDX hD 0 rfl) (zrd (v := mk) ((fr k 15 (by omega) (by omega)).trans hmk) ?_)
              refine And.intro (by omega) ⟨fun h137 => ?_, fun h137 => ?_⟩
              · refine And.intro (zRb rfl) (zbt rfl ?_)
                refine ⟨((41 - (m + 1)), (1 - (((-1) : Int) + 1)).toNat, 0), zlt6 (by omega), [some (zvr (k)), some (zvi (p_)), some (zvi ((tPo c p_ (m + 1)))), some (zvi ((m + 1))), none, none], ⟨rfl, rfl, (congrArg (fun z => some (zvi z)) (by omega)), rfl, rfl⟩, (m + 1), (tPo c p_ (m + 1)), (-1), rfl, rfl, rfl, rfl, rfl, rfl, h0, (by omega), (by first | exact hq | rfl), (by by_cases e : c q = 92; (have e2 := pos.1 e; omega); (have e2 := pos.2 e; omega)), (by first | exact zxe.trans (by omega) | exact rfl.trans (hfv.trans (by omega))), ?_, ?_, (fun c j h0 h1 => ((fr c j (by omega) (by omega)).trans rfl))⟩
                · rcases hst with w | w
                  · first
                    | exact Or.inr ⟨by omega, by omega, tXf_a h0 hq (by omega) w.2 (by omega) (by omega)⟩
                    | exact Or.inr ⟨by omega, by omega, tXf_b h0 hq (by omega) w.2 (by omega) (by omega) (by omega) (by omega)⟩
                    | exact Or.inl ⟨by omega, tXs_up w.2 (tXs_n hq (by omega) (by omega) (by omega) (by omega))⟩
                  · exfalso; omega
                · first
                  | exact hl
                  | (intro h8 i hi
                     by_cases e : i = m
                     · subst e
                       exact zxe.trans (by by_cases e : c q = 92; (rw [let_.1 e]; omega); (rw [let_.2 e]; omega))
                     · exact (zxs (by omega) rfl : _ = I1 (k + 6) _).trans (hl h8 i (by omega)))
                  | (intro h8
                     exfalso; omega)
                  | (intro h8 i hi
                     exact rfl.trans (hl h8 i hi))
              · refine And.intro (zDX hD 0 rfl) (zrdR (v := some (k + 6)) (zDR hD 5 rfl) ?_)
                refine And.intro (zDX hD 0 rfl) (zrd (v := fd) ((fr k 17 (by omega) (by omega)).trans hfd) ?_)
                refine And.intro (zDX hD 0 rfl) (zrd (v := wd) ((fr k 21 (by omega) (by omega)).trans hwd) ?_)
                refine And.intro ⟨(by show 40 ≤ _; omega), (zDP hD 6 rfl rfl (by omega) (by omega))⟩ ⟨_, (zWi (by omega)), ?_⟩
                refine And.intro (zRb rfl) (zbt rfl ?_)
                refine ⟨((41 - (m + 1)), (1 - (((-1) : Int) + 1)).toNat, 0), zlt6 (by omega), [some (zvr (k)), some (zvi (p_)), some (zvi ((tPo c p_ (m + 1)))), some (zvi ((m + 1))), none, none], ⟨rfl, rfl, (congrArg (fun z => some (zvi z)) (by omega)), rfl, rfl⟩, (m + 1), (tPo c p_ (m + 1)), (-1), rfl, rfl, rfl, rfl, rfl, rfl, h0, (by omega), (by first | exact hq | rfl), (by by_cases e : c q = 92; (have e2 := pos.1 e; omega); (have e2 := pos.2 e; omega)), (by first | exact zxe.trans (by omega) | exact (zxcj (by omega) rfl).trans (hfv.trans (by omega))), ?_, ?_, (fun c j h0 h1 => (zxcj (by omega) ((fr c j (by omega) (by omega)).trans rfl)))⟩
                · rcases hst with w | w
                  · first
                    | exact Or.inr ⟨by omega, by omega, tXf_a h0 hq (by omega) w.2 (by omega) (by omega)⟩
                    | exact Or.inr ⟨by omega, by omega, tXf_b h0 hq (by omega) w.2 (by omega) (by omega) (by omega) (by omega)⟩
                    | exact Or.inl ⟨by omega, tXs_up w.2 (tXs_n hq (by omega) (by omega) (by omega) (by omega))⟩
                  · exfalso; omega
                · first
                  | exact hl
                  | (intro h8 i hi
                     by_cases e : i = m
                     · subst e
                       exact zxe.trans (by by_cases e : c q = 92; (rw [let_.1 e]; omega); (rw [let_.2 e]; omega))
                     · exact (zxs (by omega) rfl : _ = I1 (k + 6) _).trans (hl h8 i (by omega)))
                  | (intro h8
                     exfalso; omega)
                  | (intro h8 i hi
                     exact (zxcj (by omega) rfl).trans (hl h8 i hi))
            · refine And.intro (zDX hD 0 rfl) (Exists.intro _ (And.intro (zinl_ok (zT20_9 0)) (And.intro rfl ?_)))
              refine And.intro (zDX hD 0 rfl) (zrd (v := f) hfv ?_)
              refine And.intro ⟨(by omega), (zRb rfl)⟩ ⟨(fun h5_98 => False.elim (by omega)), fun h5_98 => ?_⟩
              refine And.intro (zDX hD 0 rfl) ⟨_, (zWi (by omega)), ?_⟩
              refine ⟨((41 - m), (1 - ((q : Int) + 1)).toNat, 0), zlt6 (by omega), [some (zvr (k)), some (zvi (p_)), some (zvi (q)), some (zvi (m)), none, none], ⟨rfl, rfl, rfl, rfl, rfl⟩, m, q, (q : Int), rfl, rfl, rfl, rfl, rfl, rfl, h0, (by omega), (by first | exact hq | rfl), (by by_cases e : c q = 92; (have e2 := pos.1 e; omega); (have e2 := pos.2 e; omega)), (by first | exact zxe.trans (by omega) | exact (zxcj (by omega) rfl).trans (hfv.trans (by omega))), ?_, ?_, (fun c j h0 h1 => (zxcj h0 ((fr c j (by omega) (by omega)).trans rfl)))⟩
              · rcases hst with w | w
                · first
                  | exact Or.inr ⟨by omega, by omega, tXf_a h0 hq (by omega) w.2 (by omega) (by omega)⟩
                  | exact Or.inr ⟨by omega, by omega, tXf_b h0 hq (by omega) w.2 (by omega) (by omega) (by omega) (by omega)⟩
                  | exact Or.inl ⟨by omega, tXs_up w.2 (tXs_n hq (by omega) (by omega) (by omega) (by omega))⟩
                · exfalso; omega
              · first
                | exact hl
                | (intro h8 i hi
                   by_cases e : i = m
                   · subst e
                     exact zxe.trans (by by_cases e : c q = 92; (rw [let_.1 e]; omega); (rw [let_.2 e]; omega))
                   · exact (zxs (by omega) rfl : _ = I1 (k + 6) _).trans (hl h8 i (by omega)))
                | (intro h8
                   exfalso; omega)
                | (intro h8 i hi
                   exact (zxcj (by omega) rfl).trans (hl h8 i hi))
        · refine And.intro (zRb rfl) (zbf rfl ?_)
          refine And.intro (zDX hD 0 rfl) ⟨_, sn_V_c.up (by decide), ?_⟩
          refine ⟨k, c, n, ((q + 1) : Int), (q + 1), rfl, hD, (by first | exact (zRM_fr hX (fun c j h => ((fr c j (by omega) (by omega)).trans rfl))) | (clear hQ; grind [xu])), (by first | exact hc | (clear hQ; grind [xu])), (by omega), ?_⟩
          intro v67o p67hv p67bhv2
          refine And.intro ⟨(by omega), (zRb rfl)⟩ ⟨fun h83 => ?_, fun h83 => ?_⟩
          · refine And.intro (zDX hD 0 rfl) (Exists.intro _ (And.intro (zinl_ok (zT20_9 0)) (And.intro rfl ?_)))
            refine And.intro (zDX hD 0 rfl) (zrd (v := f) hfv ?_)
            refine And.intro ⟨(by omega), (zRb rfl)⟩ ⟨(fun h5_98 => False.elim (by omega)), fun h5_98 => ?_⟩
            refine And.intro (zDX hD 0 rfl) ⟨_, (zWi (by omega)), ?_⟩
            refine ⟨((41 - m), (1 - ((q : Int) + 1)).toNat, 0), zlt6 (by omega), [some (zvr (k)), some (zvi (p_)), some (zvi (q)), some (zvi (m)), none, none], ⟨rfl, rfl, rfl, rfl, rfl⟩, m, q, (q : Int), rfl, rfl, rfl, rfl, rfl, rfl, h0, (by omega), (by first | exact hq | rfl), (by by_cases e : c q = 92; (have e2 := pos.1 e; omega); (have e2 := pos.2 e; omega)), (by first | exact zxe.trans (by omega) | exact (zxcj (by omega) rfl).trans (hfv.trans (by omega))), ?_, ?_, (fun c j h0 h1 => (zxcj h0 ((fr c j (by omega) (by omega)).trans rfl)))⟩
            · rcases hst with w | w
              · first
                | exact Or.inr ⟨by omega, by omega, tXf_a h0 hq (by omega) w.2 (by omega) (by omega)⟩
                | exact Or.inr ⟨by omega, by omega, tXf_b h0 hq (by omega) w.2 (by omega) (by omega) (by omega) (by omega)⟩
                | exact Or.inl ⟨by omega, tXs_up w.2 (tXs_n hq (by omega) (by omega) (by omega) (by omega))⟩
              · exfalso; omega
            · first
              | exact hl
              | (intro h8 i hi
                 by_cases e : i = m
                 · subst e
                   exact zxe.trans (by by_cases e : c q = 92; (rw [let_.1 e]; omega); (rw [let_.2 e]; omega))
                 · exact (zxs (by omega) rfl : _ = I1 (k + 6) _).trans (hl h8 i (by omega)))
              | (intro h8
                 exfalso; omega)
              | (intro h8 i hi
                 exact (zxcj (by omega) rfl).trans (hl h8 i hi))
          · refine And.intro (zDX hD 0 rfl) ⟨_, sn_V_c.up (by decide), ?_⟩
            refine ⟨k, c, n, (q : Int), q, rfl, hD, (by first | exact (zRM_fr hX (fun c j h => ((fr c j (by omega) (by omega)).trans rfl))) | (clear hQ; grind [xu])), (by first | exact hc | (clear hQ; grind [xu])), (by omega), ?_⟩
            intro v88o p88hv p88bhv2
            refine And.intro ⟨(by omega), (zRb rfl)⟩ ⟨fun h93 => ?_, (fun h93 => False.elim (by omega))⟩
            refine And.intro (zRb rfl) (zbf rfl ?_)
            refine And.intro ⟨(by omega), (zRb rfl)⟩ ⟨fun h113 => ?_, fun h113 => ?_⟩
            · refine And.intro (zDX hD 0 rfl) (zrd (v := mk) ((fr k 15 (by omega) (by omega)).trans hmk) ?_)
              refine And.intro (by omega) ⟨fun h137 => ?_, fun h137 => ?_⟩
              · refine And.intro (zRb rfl) (zbf rfl ?_)
                refine ⟨((41 - (m + 1)), (1 - (((-1) : Int) + 1)).toNat, 0), zlt6 (by omega), [some (zvr (k)), some (zvi (p_)), some (zvi ((tPo c p_ (m + 1)))), some (zvi ((m + 1))), none, none], ⟨rfl, rfl, (congrArg (fun z => some (zvi z)) (by omega)), rfl, rfl⟩, (m + 1), (tPo c p_ (m + 1)), (-1), rfl, rfl, rfl, rfl, rfl, rfl, h0, (by omega), (by first | exact hq | rfl), (by by_cases e : c q = 92; (have e2 := pos.1 e; omega); (have e2 := pos.2 e; omega)), (by first | exact zxe.trans (by omega) | exact rfl.trans (hfv.trans (by omega))), ?_, ?_, (fun c j h0 h1 => ((fr c j (by omega) (by omega)).trans rfl))⟩
                · rcases hst with w | w
                  · first
                    | exact Or.inr ⟨by omega, by omega, tXf_a h0 hq (by omega) w.2 (by omega) (by omega)⟩
                    | exact Or.inr ⟨by omega, by omega, tXf_b h0 hq (by omega) w.2 (by omega) (by omega) (by omega) (by omega)⟩
                    | exact Or.inl ⟨by omega, tXs_up w.2 (tXs_n hq (by omega) (by omega) (by omega) (by omega))⟩
                  · exfalso; omega
                · first
                  | exact hl
                  | (intro h8 i hi
                     by_cases e : i = m
                     · subst e
                       exact zxe.trans (by by_cases e : c q = 92; (rw [let_.1 e]; omega); (rw [let_.2 e]; omega))
                     · exact (zxs (by omega) rfl : _ = I1 (k + 6) _).trans (hl h8 i (by omega)))
                  | (intro h8
                     exfalso; omega)
                  | (intro h8 i hi
                     exact rfl.trans (hl h8 i hi))
              · refine And.intro (zDX hD 0 rfl) (zrdR (v := some (k + 6)) (zDR hD 5 rfl) ?_)
                refine And.intro (zDX hD 0 rfl) (zrd (v := fd) ((fr k 17 (by omega) (by omega)).trans hfd) ?_)
                refine And.intro (zDX hD 0 rfl) (zrd (v := wd) ((fr k 21 (by omega) (by omega)).trans hwd) ?_)
                refine And.intro ⟨(by show 40 ≤ _; omega), (zDP hD 6 rfl rfl (by omega) (by omega))⟩ ⟨_, (zWi (by omega)), ?_⟩
                refine And.intro (zRb rfl) (zbf rfl ?_)
                refine ⟨((41 - (m + 1)), (1 - (((-1) : Int) + 1)).toNat, 0), zlt6 (by omega), [some (zvr (k)), some (zvi (p_)), some (zvi ((tPo c p_ (m + 1)))), some (zvi ((m + 1))), none, none], ⟨rfl, rfl, (congrArg (fun z => some (zvi z)) (by omega)), rfl, rfl⟩, (m + 1), (tPo c p_ (m + 1)), (-1), rfl, rfl, rfl, rfl, rfl, rfl, h0, (by omega), (by first | exact hq | rfl), (by by_cases e : c q = 92; (have e2 := pos.1 e; omega); (have e2 := pos.2 e; omega)), (by first | exact zxe.trans (by omega) | exact (zxcj (by omega) rfl).trans (hfv.trans (by omega))), ?_, ?_, (fun c j h0 h1 => (zxcj (by omega) ((fr c j (by omega) (by omega)).trans rfl)))⟩
                · rcases hst with w | w
                  · first
                    | exact Or.inr ⟨by omega, by omega, tXf_a h0 hq (by omega) w.2 (by omega) (by omega)⟩
                    | exact Or.inr ⟨by omega, by omega, tXf_b h0 hq (by omega) w.2 (by omega) (by omega) (by omega) (by omega)⟩
                    | exact Or.inl ⟨by omega, tXs_up w.2 (tXs_n hq (by omega) (by omega) (by omega) (by omega))⟩
                  · exfalso; omega
                · first
                  | exact hl
                  | (intro h8 i hi
                     by_cases e : i = m
                     · subst e
                       exact zxe.trans (by by_cases e : c q = 92; (rw [let_.1 e]; omega); (rw [let_.2 e]; omega))
                     · exact (zxs (by omega) rfl : _ = I1 (k + 6) _).trans (hl h8 i (by omega)))
                  | (intro h8
                     exfalso; omega)
                  | (intro h8 i hi
                     exact (zxcj (by omega) rfl).trans (hl h8 i hi))
            · refine And.intro ⟨(by omega), (zRb rfl)⟩ ⟨fun h120 => ?_, fun h120 => ?_⟩
              · refine And.intro (zDX hD 0 rfl) (zrd (v := mk) ((fr k 15 (by omega) (by omega)).trans hmk) ?_)
                refine And.intro (by omega) ⟨fun h137 => ?_, fun h137 => ?_⟩
                · refine And.intro (zRb rfl) (zbf rfl ?_)
                  refine ⟨((41 - (m + 1)), (1 - (((-1) : Int) + 1)).toNat, 0), zlt6 (by omega), [some (zvr (k)), some (zvi (p_)), some (zvi ((tPo c p_ (m + 1)))), some (zvi ((m + 1))), none, none], ⟨rfl, rfl, (congrArg (fun z => some (zvi z)) (by omega)), rfl, rfl⟩, (m + 1), (tPo c p_ (m + 1)), (-1), rfl, rfl, rfl, rfl, rfl, rfl, h0, (by omega), (by first | exact hq | rfl), (by by_cases e : c q = 92; (have e2 := pos.1 e; omega); (have e2 := pos.2 e; omega)), (by first | exact zxe.trans (by omega) | exact rfl.trans (hfv.trans (by omega))), ?_, ?_, (fun c j h0 h1 => ((fr c j (by omega) (by omega)).trans rfl))⟩
                  · rcases hst with w | w
                    · first
                      | exact Or.inr ⟨by omega, by omega, tXf_a h0 hq (by omega) w.2 (by omega) (by omega)⟩
                      | exact Or.inr ⟨by omega, by omega, tXf_b h0 hq (by omega) w.2 (by omega) (by omega) (by omega) (by omega)⟩
                      | exact Or.inl ⟨by omega, tXs_up w.2 (tXs_n hq (by omega) (by omega) (by omega) (by omega))⟩
                    · exfalso; omega
                  · first
                    | exact hl
                    | (intro h8 i hi
                       by_cases e : i = m
                       · subst e
                         exact zxe.trans (by by_cases e : c q = 92; (rw [let_.1 e]; omega); (rw [let_.2 e]; omega))
                       · exact (zxs (by omega) rfl : _ = I1 (k + 6) _).trans (hl h8 i (by omega)))
                    | (intro h8
                       exfalso; omega)
                    | (intro h8 i hi
                       exact rfl.trans (hl h8 i hi))
                · refine And.intro (zDX hD 0 rfl) (zrdR (v := some (k + 6)) (zDR hD 5 rfl) ?_)
                  refine And.intro (zDX hD 0 rfl) (zrd (v := fd) ((fr k 17 (by omega) (by omega)).trans hfd) ?_)
                  refine And.intro (zDX hD 0 rfl) (zrd (v := wd) ((fr k 21 (by omega) (by omega)).trans hwd) ?_)
                  refine And.intro ⟨(by show 40 ≤ _; omega), (zDP hD 6 rfl rfl (by omega) (by omega))⟩ ⟨_, (zWi (by omega)), ?_⟩
                  refine And.intro (zRb rfl) (zbf rfl ?_)
                  refine ⟨((41 - (m + 1)), (1 - (((-1) : Int) + 1)).toNat, 0), zlt6 (by omega), [some (zvr (k)), some (zvi (p_)), some (zvi ((tPo c p_ (m + 1)))), some (zvi ((m + 1))), none, none], ⟨rfl, rfl, (congrArg (fun z => some (zvi z)) (by omega)), rfl, rfl⟩, (m + 1), (tPo c p_ (m + 1)), (-1), rfl, rfl, rfl, rfl, rfl, rfl, h0, (by omega), (by first | exact hq | rfl), (by by_cases e : c q = 92; (have e2 := pos.1 e; omega); (have e2 := pos.2 e; omega)), (by first | exact zxe.trans (by omega) | exact (zxcj (by omega) rfl).trans (hfv.trans (by omega))), ?_, ?_, (fun c j h0 h1 => (zxcj (by omega) ((fr c j (by omega) (by omega)).trans rfl)))⟩
                  · rcases hst with w | w
                    · first
                      | exact Or.inr ⟨by omega, by omega, tXf_a h0 hq (by omega) w.2 (by omega) (by omega)⟩
                      | exact Or.inr ⟨by omega, by omega, tXf_b h0 hq (by omega) w.2 (by omega) (by omega) (by omega) (by omega)⟩
                      | exact Or.inl ⟨by omega, tXs_up w.2 (tXs_n hq (by omega) (by omega) (by omega) (by omega))⟩
                    · exfalso; omega
                  · first
                    | exact hl
                    | (intro h8 i hi
                       by_cases e : i = m
                       · subst e
                         exact zxe.trans (by by_cases e : c q = 92; (rw [let_.1 e]; omega); (rw [let_.2 e]; omega))
                       · exact (zxs (by omega) rfl : _ = I1 (k + 6) _).trans (hl h8 i (by omega)))
                    | (intro h8
                       exfalso; omega)
                    | (intro h8 i hi
                       exact (zxcj (by omega) rfl).trans (hl h8 i hi))
              · refine And.intro (zDX hD 0 rfl) (Exists.intro _ (And.intro (zinl_ok (zT20_9 0)) (And.intro rfl ?_)))
                refine And.intro (zDX hD 0 rfl) (zrd (v := f) hfv ?_)
                refine And.intro ⟨(by omega), (zRb rfl)⟩ ⟨(fun h5_127 => False.elim (by omega)), fun h5_127 => ?_⟩
                refine And.intro (zDX hD 0 rfl) ⟨_, (zWi (by omega)), ?_⟩
                refine ⟨((41 - m), (1 - (((q : Int) + 1) + 1)).toNat, 0), zlt6 (by omega), [some (zvr (k)), some (zvi (p_)), some (zvi (q)), some (zvi (m)), none, none], ⟨rfl, rfl, rfl, rfl, rfl⟩, m, q, ((q : Int) + 1), rfl, rfl, rfl, rfl, rfl, rfl, h0, (by omega), (by first | exact hq | rfl), (by by_cases e : c q = 92; (have e2 := pos.1 e; omega); (have e2 := pos.2 e; omega)), (by first | exact zxe.trans (by omega) | exact (zxcj (by omega) rfl).trans (hfv.trans (by omega))), ?_, ?_, (fun c j h0 h1 => (zxcj h0 ((fr c j (by omega) (by omega)).trans rfl)))⟩
                · rcases hst with w | w
                  · first
                    | exact Or.inr ⟨by omega, by omega, tXf_a h0 hq (by omega) w.2 (by omega) (by omega)⟩
                    | exact Or.inr ⟨by omega, by omega, tXf_b h0 hq (by omega) w.2 (by omega) (by omega) (by omega) (by omega)⟩
                    | exact Or.inl ⟨by omega, tXs_up w.2 (tXs_n hq (by omega) (by omega) (by omega) (by omega))⟩
                  · exfalso; omega
                · first
                  | exact hl
                  | (intro h8 i hi
                     by_cases e : i = m
                     · subst e
                       exact zxe.trans (by by_cases e : c q = 92; (rw [let_.1 e]; omega); (rw [let_.2 e]; omega))
                     · exact (zxs (by omega) rfl : _ = I1 (k + 6) _).trans (hl h8 i (by omega)))
                  | (intro h8
                     exfalso; omega)
                  | (intro h8 i hi
                     exact (zxcj (by omega) rfl).trans (hl h8 i hi)))
