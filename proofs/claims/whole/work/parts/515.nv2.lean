/-! nv2 -/
def T_V_bl2 : ZT := fun args I L R S Q => ∃ (k : Nat) (c : Nat → Int) (n : Nat) (p : Int) (p_ : Nat), args = [zvr k, zvi p] ∧ (zDy zT20 zF20 k R S) ∧ (zRM k c n I) ∧ (tOk c n) ∧ (p = p_ ∧ p_ ≤ 5900) ∧ ∀ (v : Int), (v = tSk tBk c n p_) → Q (some (zvi (v))) I L R S
theorem sn_V_bl2 : ZSnd 2 20 2 T_V_bl2 := ZSnd.loops (zT20_2 1) (by
  rintro args I L R S Q hz ⟨k, c, n, p, p_, rfl, hD, hX, hc, hp, hQ⟩
  obtain ⟨x1, x2⟩ := id hX
  have hn4 := hc.1
  have hk40 := hD.1
  refine ⟨[2], fun nM tM lsM stM I1 L1 R1 S1 => match tM with
      | 2 => ∃ (q : Nat), nM = ((10001 - q), 0, 0) ∧ lsM = [some (zvr (k)), none, some (zvi (q))] ∧ stM = [] ∧ I1 = I ∧ L1 = L ∧ R1 = R ∧ S1 = S ∧ (p_ ≤ q ∧ (q ≤ n ∨ q = p_)) ∧ (q ≤ 5900) ∧ (∀ i, p_ ≤ i → i < q → tBk (c i))
      | _ => False, rfl, ?_, ⟨?_, True.intro⟩⟩
  · refine ⟨((10001 - p_), 0, 0), [some (zvr (k)), none, some (zvi (p_))], ⟨rfl, (congrArg (fun z => some (zvi z)) (by omega)), rfl⟩, p_, rfl, rfl, rfl, rfl, rfl, rfl, rfl, (by clear hQ; grind [xu]), (by omega), (fun i h1 h2 => by omega)⟩
  · rintro nM lsM stM I1 L1 R1 S1 hz1 ⟨q, rfl, rfl, rfl, rfl, rfl, rfl, rfl, hq, hq5, hb⟩
    refine And.intro (zDX hD 0 rfl) ⟨_, sn_V_c.up (by decide), ?_⟩
    refine ⟨k, c, n, (q : Int), q, rfl, hD, (by first | exact (zRM_fr hX (fun c j h => rfl)) | (clear hQ; grind [xu])), (by first | exact hc | (clear hQ; grind [xu])), (by omega), ?_⟩
    intro v4o p4hv p4bhv2
    refine Exists.intro _ (And.intro (zinl_ok (zT20_15 0)) (And.intro rfl ?_))
    refine And.intro ⟨(by omega), (zRb rfl)⟩ ⟨fun h3_7 => ?_, fun h3_7 => ?_⟩
    · refine And.intro (Or.inr rfl) ?_
      refine And.intro (zRb rfl) (zbf rfl ?_)
      refine ⟨((10001 - (q + 1)), 0, 0), zlt6 (by omega), [some (zvr (k)), none, some (zvi ((q + 1)))], ⟨rfl, rfl, rfl⟩, (q + 1), rfl, rfl, rfl, rfl, rfl, rfl, rfl, (by first | exact hq | (clear hQ; grind [xu])), (by omega), ?_⟩
      · intro i h1 h2
        by_cases e : i = q
        · rw [e]; unfold tBk; omega
        · exact hb i h1 (by omega)
    · refine And.intro ⟨(by omega), (zRb rfl)⟩ ⟨fun h9_7 => ?_, fun h9_7 => ?_⟩
      · refine And.intro (Or.inl rfl) ?_
        refine And.intro (zRb rfl) (zbt rfl ?_)
        refine hQ _ (congrArg Nat.cast (tSk_at hq.1 (by omega) hb (by unfold tBk; omega)).symm)
      · refine And.intro (Or.inr rfl) ?_
        refine And.intro (zRb rfl) (zbf rfl ?_)
        refine ⟨((10001 - (q + 1)), 0, 0), zlt6 (by omega), [some (zvr (k)), none, some (zvi ((q + 1)))], ⟨rfl, rfl, rfl⟩, (q + 1), rfl, rfl, rfl, rfl, rfl, rfl, rfl, (by first | exact hq | (clear hQ; grind [xu])), (by omega), ?_⟩
        · intro i h1 h2
          by_cases e : i = q
          · rw [e]; unfold tBk; omega
          · exact hb i h1 (by omega))
def T_V_num92 : ZT := fun args I L R S Q => ∃ (k : Nat) (c : Nat → Int) (n : Nat) (p : Int) (p_ : Nat) (b : Int) (b_ : Nat) (lo : Int) (hi : Int), args = [zvr k, zvi p, zvi b, zvl lo, zvl hi] ∧ (zDy zT20 zF20 k R S) ∧ (zRM k c n I) ∧ (tOk c n) ∧ (p = p_ ∧ p_ ≤ 5000) ∧ (b = b_ ∧ b_ ≤ 1) ∧ ((-1000000000 ≤ lo ∧ lo ≤ 1000000000) ∧ -1000000000 ≤ hi ∧ hi ≤ 1000000000) ∧ (I k 18 = -1) ∧ ∀ (v : Int) (I' : ZI) (L' : ZI), (I' k 18 = (tNf c n p_ b_ lo hi)) → ((tNf c n p_ b_ lo hi) = -1 → v = tNe c n p_ b_ ∧ L' k 28 = tNv c n p_ b_) → (∀ c j : Nat, ¬ (c = k ∧ j = 18) → I' c j = I c j) → (∀ c j : Nat, ¬ (c = k ∧ j = 28) → L' c j = L c j) → (0 ≤ v ∧ v ≤ p_ + 20) → Q (some (zvi (v))) I' L' R S
theorem sn_V_num92 : ZSnd 3 20 36 T_V_num92 := ZSnd.loops (zT20_36 2) (by
  rintro args I L R S Q hz ⟨k, c, n, p, p_, b, b_, lo, hi, rfl, hD, hX, hc, hp, hb, hlo, hf0, hQ⟩
  obtain ⟨x1, x2⟩ := id hX
  have hn4 := hc.1
  have hk40 := hD.1
  refine ⟨[126], fun nM tM lsM stM I1 L1 R1 S1 => match tM with
      | 126 => ∃ (i : Nat) (s : Int) (q : Int) (r : Int) (v : Int) (x : Int), nM = ((7 - i), 0, 0) ∧ lsM = [some (zvr (k)), some (zvi (p_)), none, some (zvl (lo)), none, some (zvl (hi)), none, some (zvi (s)), some (zvi (q)), some (zvl (v)), none, some (zvi (r)), some (zvl (x)), none, some (zvi (i))] ∧ stM = [] ∧ L1 = L ∧ R1 = R ∧ S1 = S ∧ ((tNr c n p_ - (tNq c n p_ + 1)) ≤ i ∧ i ≤ 6) ∧ ((c p_ = 45 ∧ s = p_ + 1) ∨ (c p_ ≠ 45 ∧ s = p_)) ∧ (r = tNr c n p_) ∧ (b_ = 1) ∧ (tFr c (tNq c n p_) b_) ∧ (¬ tBd c (tNs c p_) (tNq c n p_)) ∧ (¬ tBd c (tNq c n p_ + 1) (tNr c n p_)) ∧ (v = 1000000 * tVl c (tNs c p_) (tNq c n p_ - tNs c p_)) ∧ (0 ≤ v ∧ v ≤ 9999000000) ∧ (x = tTn (i - (tNr c n p_ - (tNq c n p_ + 1))) * tVl c (tNq c n p_ + 1) (tNr c n p_ - (tNq c n p_ + 1))) ∧ (0 ≤ x ∧ x ≤ 999999) ∧ (I1 k 18 = -1) ∧ (∀ c j : Nat, ¬ (c = k ∧ j = 18) → I1 c j = I c j)
      | _ => False, rfl, ?_, ⟨?_, True.intro⟩⟩
  · refine And.intro (zDX hD 0 rfl) ⟨_, sn_V_c.up (by decide), ?_⟩
    refine ⟨k, c, n, (p : Int), p_, rfl, hD, (by first | exact (zRM_fr hX (fun c j h => rfl)) | (clear hQ; grind [xu])), (by first | exact hc | (clear hQ; grind [xu])), (by omega), ?_⟩
    intro v2o p2hv p2bhv2
    refine And.intro ⟨(by omega), (zRb rfl)⟩ ⟨fun h7 => ?_, fun h7 => ?_⟩
    · have t7 : tNs c p_ = p_ := (tNs_n (by omega))
      have t7b : tNv c n p_ b_ = tNu c n p_ b_ := (tNv_n (by omega))
      refine And.intro (zDX hD 0 rfl) ⟨_, sn_V_dig.up (by decide), ?_⟩
      refine ⟨k, c, n, (p : Int), (tNs c p_), (4 : Int), 4, rfl, hD, (by first | exact (zRM_fr hX (fun c j h => rfl)) | (clear hQ; grind [xu])), (by first | exact hc | (clear hQ; grind [xu])), (by omega), (by omega), (Eq.trans (b := ((-1) : Int)) hf0 (by omega)), ?_⟩
      intro v23o I23o p23hv p23bhf p23bbfr
      have g23 : v23o = tNq c n p_ := p23hv
      have g23b : tNs c p_ ≤ tNq c n p_ ∧ tNq c n p_ ≤ tNs c p_ + 4 := (by have w := tDe_sp (p := tNs c p_) (m := 4) hc; exact ⟨w.1, w.2.1⟩)
      rcases p23bhf with w23 | w23
      · refine And.intro (zDX hD 0 rfl) (zrd (v := (-1)) w23.2 ?_)
        refine And.intro ⟨(zRb rfl), (zRb rfl)⟩ (zbf rfl ?_)
        refine And.intro (zDX hD 0 rfl) ⟨_, sn_V_val.up (by decide), ?_⟩
        refine ⟨k, c, n, (p : Int), (tNs c p_), (v23o : Int), (tNq c n p_), rfl, hD, (by first | exact (zRM_fr hX (fun c j h => ((p23bbfr c j (by omega)).trans rfl))) | (clear hQ; grind [xu])), (by first | exact hc | (clear hQ; grind [xu])), (by omega), ⟨by omega, by omega, by omega, (tDe_sp hc).2.2.2⟩, (tDe_sp hc).2.2.1, ?_⟩
        intro v41o p41hv p41bhv2
        have g41 : v41o = tVl c (tNs c p_) (tNq c n p_ - tNs c p_) := p41hv
        have g41b : 0 ≤ v41o ∧ v41o ≤ 9999 := (by have w := tDe_sp (p := tNs c p_) (m := 4) hc; have w2 := tVl_b (c := c) (p := tNs c p_) (n := tNq c n p_ - tNs c p_) (fun i h1 h2 => w.2.2.1 i h1 (by show i < tNq c n p_; omega)) (Nat.le_refl _); omega)
        refine And.intro (by omega) ⟨fun h51 => ?_, fun h51 => ?_⟩
        · have t51 : ¬ tFr c (tNq c n p_) b_ := (fun w => by have w1 := w.1; omega)
          have t51b : tNu c n p_ b_ = tVl c (tNs c p_) (tNq c n p_ - tNs c p_) := (tNu_0 (by omega))
          refine And.intro (by omega) ⟨fun h63 => ?_, (fun h63 => False.elim (by omega))⟩
          refine And.intro ⟨(by omega), (by omega)⟩ ⟨fun h161 => ?_, (fun h161 => False.elim (by omega))⟩
          refine ⟨_, _, ⟨zW6i (by omega), zW6i (by omega)⟩, fun z178 c178 => ?_⟩
          refine And.intro c178.2.2 ⟨fun h179 => ?_, fun h179 => ?_⟩
          · have t179 : (1 : Int) ≤ 2 := (by decide)
            refine And.intro (zDX hD 0 rfl) (Exists.intro _ (And.intro (zinl_ok (zT20_9 1)) (And.intro rfl ?_)))
            refine And.intro (zDX hD 0 rfl) (zrd (v := (-1)) w23.2 ?_)
            refine And.intro ⟨(zRb rfl), (zRb rfl)⟩ (zbf rfl ?_)
            refine And.intro (zDX hD 0 rfl) ⟨_, (zWi (by omega)), ?_⟩
            refine And.intro (zDX hD 0 rfl) ⟨_, zW6i (by omega), ?_⟩
            refine hQ _ _ _ ?_ ?_ (fun c j h0 => (zxcj h0 ((p23bbfr c j h0).trans rfl))) (fun c j h0 => (zxcj h0 rfl)) (by first | omega | (obtain rfl := hr; have w8 := (tDe_sp (p := tNq c n p_ + 1) (m := 6) hc); have w9 := (tDe_sp (p := tNs c p_) (m := 4) hc); have w7 := tNs_le (c := c) (p := p_); have e1 : tNr c n p_ = tDe c n (tNq c n p_ + 1) 6 := rfl; have e2 : tNq c n p_ = tDe c n (tNs c p_) 4 := rfl; omega))
            · first
              | (rw [tNf_1 (show tBd c (tNs c p_) (tNq c n p_) from w23.1)]
                 exact w23.2)
              | (rw [tNf_2 w23.1 t82 w97.1]
                 exact w97.2)
              | (have m_ := t179
                 rw [tNf_3 w23.1 (fun z => by first | exact t82 z.1 | exact t51 z.1) (by rw [t7b]; (first | rw [t82b] | rw [t51b]); omega)]
                 exact zxe.trans (by omega))
              | (have m_ := t187b
                 rw [tNf_4 w23.1 (fun z => by first | exact t82 z.1 | exact t51 z.1) (by rw [t7b]; (first | rw [t82b] | rw [t51b]); omega)]
                 exact w23.2)
              | (have m_ := t187
                 rw [tNf_3 w23.1 (fun z => by first | exact t82 z.1 | exact t51 z.1) (by rw [t7b]; (first | rw [t82b] | rw [t51b]); omega)]
                 exact zxe.trans (by omega))
            · intro h9
              first
              | (rw [tNf_1 (show tBd c (tNs c p_) (tNq c n p_) from w23.1)] at h9
                 omega)
              | (rw [tNf_2 w23.1 t82 w97.1] at h9
                 omega)
              | (have m_ := t179
                 rw [tNf_3 w23.1 (fun z => by first | exact t82 z.1 | exact t51 z.1) (by rw [t7b]; (first | rw [t82b] | rw [t51b]); omega)] at h9
                 omega)
              | (have m_ := t187b
                 refine ⟨?_, zxe.trans (by rw [t7b]; (first | rw [t82b] | rw [t51b]); omega)⟩
                 rw [tNe_n (by first | exact t82 | exact t51)]
                 exact p23hv)
              | (have m_ := t187
                 rw [tNf_3 w23.1 (fun z => by first | exact t82 z.1 | exact t51 z.1) (by rw [t7b]; (first | rw [t82b] | rw [t51b]); omega)] at h9
                 omega)
          · refine ⟨_, _, ⟨zW6i (by omega), zW6i (by omega)⟩, fun z186 c186 => ?_⟩
            refine And.intro c186.2.2 ⟨fun h187 => ?_, fun h187 => ?_⟩
            · have t187 : (1 : Int) ≤ 2 := (by decide)
              have t187b : (1 : Int) ≤ 2 := (by decide)
              refine And.intro (zDX hD 0 rfl) ⟨_, zW6i (by omega), ?_⟩
              refine hQ _ _ _ ?_ ?_ (fun c j h0 => ((p23bbfr c j h0).trans rfl)) (fun c j h0 => (zxcj h0 rfl)) (by first | omega | (obtain rfl := hr; have w8 := (tDe_sp (p := tNq c n p_ + 1) (m := 6) hc); have w9 := (tDe_sp (p := tNs c p_) (m := 4) hc); have w7 := tNs_le (c := c) (p := p_); have e1 : tNr c n p_ = tDe c n (tNq c n p_ + 1) 6 := rfl; have e2 : tNq c n p_ = tDe c n (tNs c p_) 4 := rfl; omega))
              · first
                | (rw [tNf_1 (show tBd c (tNs c p_) (tNq c n p_) from w23.1)]
                   exact w23.2)
                | (rw [tNf_2 w23.1 t82 w97.1]
                   exact w97.2)
                | (have m_ := t179
                   rw [tNf_3 w23.1 (fun z => by first | exact t82 z.1 | exact t51 z.1) (by rw [t7b]; (first | rw [t82b] | rw [t51b]); omega)]
                   exact zxe.trans (by omega))
                | (have m_ := t187b
                   rw [tNf_4 w23.1 (fun z => by first | exact t82 z.1 | exact t51 z.1) (by rw [t7b]; (first | rw [t82b] | rw [t51b]); omega)]
                   exact w23.2)
                | (have m_ := t187
                   rw [tNf_3 w23.1 (fun z => by first | exact t82 z.1 | exact t51 z.1) (by rw [t7b]; (first | rw [t82b] | rw [t51b]); omega)]
                   exact zxe.trans (by omega))
              · intro h9
                first
                | (rw [tNf_1 (show tBd c (tNs c p_) (tNq c n p_) from w23.1)] at h9
                   omega)
                | (rw [tNf_2 w23.1 t82 w97.1] at h9
                   omega)
                | (have m_ := t179
                   rw [tNf_3 w23.1 (fun z => by first | exact t82 z.1 | exact t51 z.1) (by rw [t7b]; (first | rw [t82b] | rw [t51b]); omega)] at h9
                   omega)
                | (have m_ := t187b
                   refine ⟨?_, zxe.trans (by rw [t7b]; (first | rw [t82b] | rw [t51b]); omega)⟩
                   rw [tNe_n (by first | exact t82 | exact t51)]
                   exact p23hv)
                | (have m_ := t187
                   rw [tNf_3 w23.1 (fun z => by first | exact t82 z.1 | exact t51 z.1) (by rw [t7b]; (first | rw [t82b] | rw [t51b]); omega)] at h9
                   omega)
            · have t187 : (1 : Int) ≤ 2 := (by decide)
              refine And.intro (zDX hD 0 rfl) (Exists.intro _ (And.intro (zinl_ok (zT20_9 1)) (And.intro rfl ?_)))
              refine And.intro (zDX hD 0 rfl) (zrd (v := (-1)) w23.2 ?_)
              refine And.intro ⟨(zRb rfl), (zRb rfl)⟩ (zbf rfl ?_)
              refine And.intro (zDX hD 0 rfl) ⟨_, (zWi (by omega)), ?_⟩
              refine And.intro (zDX hD 0 rfl) ⟨_, zW6i (by omega), ?_⟩
              refine hQ _ _ _ ?_ ?_ (fun c j h0 => (zxcj h0 ((p23bbfr c j h0).trans rfl))) (fun c j h0 => (zxcj h0 rfl)) (by first | omega | (obtain rfl := hr; have w8 := (tDe_sp (p := tNq c n p_ + 1) (m := 6) hc); have w9 := (tDe_sp (p := tNs c p_) (m := 4) hc); have w7 := tNs_le (c := c) (p := p_); have e1 : tNr c n p_ = tDe c n (tNq c n p_ + 1) 6 := rfl; have e2 : tNq c n p_ = tDe c n (tNs c p_) 4 := rfl; omega))
              · first
                | (rw [tNf_1 (show tBd c (tNs c p_) (tNq c n p_) from w23.1)]
                   exact w23.2)
                | (rw [tNf_2 w23.1 t82 w97.1]
                   exact w97.2)
                | (have m_ := t179
                   rw [tNf_3 w23.1 (fun z => by first | exact t82 z.1 | exact t51 z.1) (by rw [t7b]; (first | rw [t82b] | rw [t51b]); omega)]
                   exact zxe.trans (by omega))
                | (have m_ := t187b
                   rw [tNf_4 w23.1 (fun z => by first | exact t82 z.1 | exact t51 z.1) (by rw [t7b]; (first | rw [t82b] | rw [t51b]); omega)]
                   exact w23.2)
                | (have m_ := t187
                   rw [tNf_3 w23.1 (fun z => by first | exact t82 z.1 | exact t51 z.1) (by rw [t7b]; (first | rw [t82b] | rw [t51b]); omega)]
                   exact zxe.trans (by omega))
              · intro h9
                first
                | (rw [tNf_1 (show tBd c (tNs c p_) (tNq c n p_) from w23.1)] at h9
                   omega)
                | (rw [tNf_2 w23.1 t82 w97.1] at h9
                   omega)
                | (have m_ := t179
                   rw [tNf_3 w23.1 (fun z => by first | exact t82 z.1 | exact t51 z.1) (by rw [t7b]; (first | rw [t82b] | rw [t51b]); omega)] at h9
                   omega)
                | (have m_ := t187b
                   refine ⟨?_, zxe.trans (by rw [t7b]; (first | rw [t82b] | rw [t51b]); omega)⟩
                   rw [tNe_n (by first | exact t82 | exact t51)]
                   exact p23hv)
                | (have m_ := t187
                   rw [tNf_3 w23.1 (fun z => by first | exact t82 z.1 | exact t51 z.1) (by rw [t7b]; (first | rw [t82b] | rw [t51b]); omega)] at h9
                   omega)
        · have t51 : b_ = 1 := (by omega)
          refine And.intro (by omega) ⟨(fun h63 => False.elim (by omega)), fun h63 => ?_⟩
          refine And.intro (zDX hD 0 rfl) (zrd (v := (-1)) w23.2 ?_)
          refine And.intro ⟨(zRb rfl), (zRb rfl)⟩ (zbf rfl ?_)
          refine And.intro (zDX hD 0 rfl) ⟨_, sn_V_c.up (by decide), ?_⟩
          refine ⟨k, c, n, (v23o : Int), (tNq c n p_), rfl, hD, (by first | exact (zRM_fr hX (fun c j h => ((p23bbfr c j (by omega)).trans rfl))) | (clear hQ; grind [xu])), (by first | exact hc | (clear hQ; grind [xu])), (by omega), ?_⟩
          intro v77o p77hv p77bhv2
          refine And.intro ⟨(by omega), (zRb rfl)⟩ ⟨fun h82 => ?_, fun h82 => ?_⟩
          · have t82 : ¬ tFr c (tNq c n p_) b_ := (fun w => by have w2 := w.2; omega)
            have t82b : tNu c n p_ b_ = 1000000 * tVl c (tNs c p_) (tNq c n p_ - tNs c p_) := (tNu_n t51 t82)
            refine And.intro ⟨(by omega), (by omega)⟩ ⟨fun h161 => ?_, (fun h161 => False.elim (by omega))⟩
            refine ⟨_, _, ⟨zW6i (by omega), zW6i (by omega)⟩, fun z178 c178 => ?_⟩
            refine And.intro c178.2.2 ⟨fun h179 => ?_, fun h179 => ?_⟩
            · have t179 : (1 : Int) ≤ 2 := (by decide)
              refine And.intro (zDX hD 0 rfl) (Exists.intro _ (And.intro (zinl_ok (zT20_9 1)) (And.intro rfl ?_)))
              refine And.intro (zDX hD 0 rfl) (zrd (v := (-1)) w23.2 ?_)
              refine And.intro ⟨(zRb rfl), (zRb rfl)⟩ (zbf rfl ?_)
              refine And.intro (zDX hD 0 rfl) ⟨_, (zWi (by omega)), ?_⟩
              refine And.intro (zDX hD 0 rfl) ⟨_, zW6i (by omega), ?_⟩
              refine hQ _ _ _ ?_ ?_ (fun c j h0 => (zxcj h0 ((p23bbfr c j h0).trans rfl))) (fun c j h0 => (zxcj h0 rfl)) (by first | omega | (obtain rfl := hr; have w8 := (tDe_sp (p := tNq c n p_ + 1) (m := 6) hc); have w9 := (tDe_sp (p := tNs c p_) (m := 4) hc); have w7 := tNs_le (c := c) (p := p_); have e1 : tNr c n p_ = tDe c n (tNq c n p_ + 1) 6 := rfl; have e2 : tNq c n p_ = tDe c n (tNs c p_) 4 := rfl; omega))
              · first
                | (rw [tNf_1 (show tBd c (tNs c p_) (tNq c n p_) from w23.1)]
                   exact w23.2)
                | (rw [tNf_2 w23.1 t82 w97.1]
                   exact w97.2)
                | (have m_ := t179
                   rw [tNf_3 w23.1 (fun z => by first | exact t82 z.1 | exact t51 z.1) (by rw [t7b]; (first | rw [t82b] | rw [t51b]); omega)]
                   exact zxe.trans (by omega))
                | (have m_ := t187b
                   rw [tNf_4 w23.1 (fun z => by first | exact t82 z.1 | exact t51 z.1) (by rw [t7b]; (first | rw [t82b] | rw [t51b]); omega)]
                   exact w23.2)
                | (have m_ := t187
                   rw [tNf_3 w23.1 (fun z => by first | exact t82 z.1 | exact t51 z.1) (by rw [t7b]; (first | rw [t82b] | rw [t51b]); omega)]
                   exact zxe.trans (by omega))
              · intro h9
                first
                | (rw [tNf_1 (show tBd c (tNs c p_) (tNq c n p_) from w23.1)] at h9
                   omega)
                | (rw [tNf_2 w23.1 t82 w97.1] at h9
                   omega)
                | (have m_ := t179
                   rw [tNf_3 w23.1 (fun z => by first | exact t82 z.1 | exact t51 z.1) (by rw [t7b]; (first | rw [t82b] | rw [t51b]); omega)] at h9
                   omega)
                | (have m_ := t187b
                   refine ⟨?_, zxe.trans (by rw [t7b]; (first | rw [t82b] | rw [t51b]); omega)⟩
                   rw [tNe_n (by first | exact t82 | exact t51)]
                   exact p23hv)
                | (have m_ := t187
                   rw [tNf_3 w23.1 (fun z => by first | exact t82 z.1 | exact t51 z.1) (by rw [t7b]; (first | rw [t82b] | rw [t51b]); omega)] at h9
                   omega)
            · refine ⟨_, _, ⟨zW6i (by omega), zW6i (by omega)⟩, fun z186 c186 => ?_⟩
              refine And.intro c186.2.2 ⟨fun h187 => ?_, fun h187 => ?_⟩
              · have t187 : (1 : Int) ≤ 2 := (by decide)
                have t187b : (1 : Int) ≤ 2 := (by decide)
                refine And.intro (zDX hD 0 rfl) ⟨_, zW6i (by omega), ?_⟩
                refine hQ _ _ _ ?_ ?_ (fun c j h0 => ((p23bbfr c j h0).trans rfl)) (fun c j h0 => (zxcj h0 rfl)) (by first | omega | (obtain rfl := hr; have w8 := (tDe_sp (p := tNq c n p_ + 1) (m := 6) hc); have w9 := (tDe_sp (p := tNs c p_) (m := 4) hc); have w7 := tNs_le (c := c) (p := p_); have e1 : tNr c n p_ = tDe c n (tNq c n p_ + 1) 6 := rfl; have e2 : tNq c n p_ = tDe c n (tNs c p_) 4 := rfl; omega))
                · first
                  | (rw [tNf_1 (show tBd c (tNs c p_) (tNq c n p_) from w23.1)]
                     exact w23.2)
                  | (rw [tNf_2 w23.1 t82 w97.1]
                     exact w97.2)
                  | (have m_ := t179
                     rw [tNf_3 w23.1 (fun z => by first | exact t82 z.1 | exact t51 z.1) (by rw [t7b]; (first | rw [t82b] | rw [t51b]); omega)]
                     exact zxe.trans (by omega))
                  | (have m_ := t187b
                     rw [tNf_4 w23.1 (fun z => by first | exact t82 z.1 | exact t51 z.1) (by rw [t7b]; (first | rw [t82b] | rw [t51b]); omega)]
                     exact w23.2)
                  | (have m_ := t187
                     rw [tNf_3 w23.1 (fun z => by first | exact t82 z.1 | exact t51 z.1) (by rw [t7b]; (first | rw [t82b] | rw [t51b]); omega)]
                     exact zxe.trans (by omega))
                · intro h9
                  first
                  | (rw [tNf_1 (show tBd c (tNs c p_) (tNq c n p_) from w23.1)] at h9
                     omega)
                  | (rw [tNf_2 w23.1 t82 w97.1] at h9
                     omega)
                  | (have m_ := t179
                     rw [tNf_3 w23.1 (fun z => by first | exact t82 z.1 | exact t51 z.1) (by rw [t7b]; (first | rw [t82b] | rw [t51b]); omega)] at h9
                     omega)
                  | (have m_ := t187b
                     refine ⟨?_, zxe.trans (by rw [t7b]; (first | rw [t82b] | rw [t51b]); omega)⟩
                     rw [tNe_n (by first | exact t82 | exact t51)]
                     exact p23hv)
                  | (have m_ := t187
                     rw [tNf_3 w23.1 (fun z => by first | exact t82 z.1 | exact t51 z.1) (by rw [t7b]; (first | rw [t82b] | rw [t51b]); omega)] at h9
                     omega)
              · have t187 : (1 : Int) ≤ 2 := (by decide)
                refine And.intro (zDX hD 0 rfl) (Exists.intro _ (And.intro (zinl_ok (zT20_9 1)) (And.intro rfl ?_)))
                refine And.intro (zDX hD 0 rfl) (zrd (v := (-1)) w23.2 ?_)
                refine And.intro ⟨(zRb rfl), (zRb rfl)⟩ (zbf rfl ?_)
                refine And.intro (zDX hD 0 rfl) ⟨_, (zWi (by omega)), ?_⟩
                refine And.intro (zDX hD 0 rfl) ⟨_, zW6i (by omega), ?_⟩
                refine hQ _ _ _ ?_ ?_ (fun c j h0 => (zxcj h0 ((p23bbfr c j h0).trans rfl))) (fun c j h0 => (zxcj h0 rfl)) (by first | omega | (obtain rfl := hr; have w8 := (tDe_sp (p := tNq c n p_ + 1) (m := 6) hc); have w9 := (tDe_sp (p := tNs c p_) (m := 4) hc); have w7 := tNs_le (c := c) (p := p_); have e1 : tNr c n p_ = tDe c n (tNq c n p_ + 1) 6 := rfl; have e2 : tNq c n p_ = tDe c n (tNs c p_) 4 := rfl; omega))
                · first
                  | (rw [tNf_1 (show tBd c (tNs c p_) (tNq c n p_) from w23.1)]
                     exact w23.2)
                  | (rw [tNf_2 w23.1 t82 w97.1]
                     exact w97.2)
                  | (have m_ := t179
                     rw [tNf_3 w23.1 (fun z => by first | exact t82 z.1 | exact t51 z.1) (by rw [t7b]; (first | rw [t82b] | rw [t51b]); omega)]
                     exact zxe.trans (by omega))
                  | (have m_ := t187b
                     rw [tNf_4 w23.1 (fun z => by first | exact t82 z.1 | exact t51 z.1) (by rw [t7b]; (first | rw [t82b] | rw [t51b]); omega)]
                     exact w23.2)
                  | (have m_ := t187
                     rw [tNf_3 w23.1 (fun z => by first | exact t82 z.1 | exact t51 z.1) (by rw [t7b]; (first | rw [t82b] | rw [t51b]); omega)]
                     exact zxe.trans (by omega))
                · intro h9
                  first
                  | (rw [tNf_1 (show tBd c (tNs c p_) (tNq c n p_) from w23.1)] at h9
                     omega)
                  | (rw [tNf_2 w23.1 t82 w97.1] at h9
                     omega)
                  | (have m_ := t179
                     rw [tNf_3 w23.1 (fun z => by first | exact t82 z.1 | exact t51 z.1) (by rw [t7b]; (first | rw [t82b] | rw [t51b]); omega)] at h9
                     omega)
                  | (have m_ := t187b
                     refine ⟨?_, zxe.trans (by rw [t7b]; (first | rw [t82b] | rw [t51b]); omega)⟩
                     rw [tNe_n (by first | exact t82 | exact t51)]
                     exact p23hv)
                  | (have m_ := t187
                     rw [tNf_3 w23.1 (fun z => by first | exact t82 z.1 | exact t51 z.1) (by rw [t7b]; (first | rw [t82b] | rw [t51b]); omega)] at h9
                     omega)
          · have t82 : tFr c (tNq c n p_) b_ := ⟨t51, by omega⟩
            refine And.intro (zDX hD 0 rfl) ⟨_, sn_V_dig.up (by decide), ?_⟩
            refine ⟨k, c, n, ((v23o + 1) : Int), (tNq c n p_ + 1), (6 : Int), 6, rfl, hD, (by first | exact (zRM_fr hX (fun c j h => ((p23bbfr c j (by omega)).trans rfl))) | (clear hQ; grind [xu])), (by first | exact hc | (clear hQ; grind [xu])), (by omega), (by omega), (Eq.trans (b := ((-1) : Int)) w23.2 (by omega)), ?_⟩
            intro v92o I92o p92hv p92bhf p92bbfr
            have g92 : v92o = tNr c n p_ := p92hv
            have g92b : tNq c n p_ + 1 ≤ tNr c n p_ ∧ tNr c n p_ ≤ tNq c n p_ + 7 := (by have w := tDe_sp (p := tNq c n p_ + 1) (m := 6) hc; exact ⟨w.1, w.2.1⟩)
            rcases p92bhf with w97 | w97
            · refine And.intro (zDX hD 0 rfl) (zrd (v := (-1)) w97.2 ?_)
              refine And.intro ⟨(zRb rfl), (zRb rfl)⟩ (zbf rfl ?_)
              refine And.intro (zDX hD 0 rfl) ⟨_, sn_V_val.up (by decide), ?_⟩
              refine ⟨k, c, n, ((v23o + 1) : Int), (tNq c n p_ + 1), (v92o : Int), (tNr c n p_), rfl, hD, (by first | exact (zRM_fr hX (fun c j h => ((p92bbfr c j (by omega)).trans ((p23bbfr c j (by omega)).trans rfl)))) | (clear hQ; grind [xu])), (by first | exact hc | (clear hQ; grind [xu])), (by omega), ⟨by omega, by omega, by omega, (tDe_sp hc).2.2.2⟩, (tDe_sp hc).2.2.1, ?_⟩
              intro v112o p112hv p112bhv2
              have g112 : v112o = tVl c (tNq c n p_ + 1) (tNr c n p_ - (tNq c n p_ + 1)) := p112hv
              refine ⟨((7 - ((tNr c n p_ - (tNq c n p_ + 1)) : Nat)), 0, 0), [some (zvr (k)), some (zvi (p_)), none, some (zvl (lo)), none, some (zvl (hi)), none, some (zvi (p)), some (zvi (v23o)), some (zvl ((1000000 * v41o))), none, some (zvi (v92o)), some (zvl (v112o)), none, some (zvi (((tNr c n p_ - (tNq c n p_ + 1)) : Nat)))], ⟨rfl, (congrArg (fun z => some (zvi z)) (by omega)), rfl, rfl, rfl, rfl, rfl, rfl, rfl, (congrArg (fun z => some (zvi z)) (by omega)), rfl⟩, (tNr c n p_ - (tNq c n p_ + 1)), p, v23o, v92o, (1000000 * v41o), v112o, rfl, rfl, rfl, rfl, rfl, rfl, (by omega), (by first | exact Or.inl ⟨by omega, by omega⟩ | exact Or.inr ⟨by omega, by omega⟩), (by omega), t51, t82, w23.1, w97.1, (by omega), (by omega), (by rw [Nat.sub_self, ← g112]; show _ = 1 * _; omega), (by omega), w97.2, (fun c j h0 => ((p92bbfr c j h0).trans ((p23bbfr c j h0).trans rfl)))⟩
            · refine And.intro (zDX hD 0 rfl) (zrd (v := (tDe c n (tNq c n p_ + 1) 6)) w97.2 ?_)
              refine And.intro ⟨(by omega), (zRb rfl)⟩ ⟨fun h102 => ?_, (fun h102 => False.elim (by omega))⟩
              refine And.intro ⟨(by omega), (by omega)⟩ ⟨fun h161 => ?_, (fun h161 => False.elim (by omega))⟩
              refine ⟨_, _, ⟨zW6i (by omega), zW6i (by omega)⟩, fun z178 c178 => ?_⟩
              refine And.intro c178.2.2 ⟨fun h179 => ?_, fun h179 => ?_⟩
              · have t179 : (1 : Int) ≤ 2 := (by decide)
                refine And.intro (zDX hD 0 rfl) (Exists.intro _ (And.intro (zinl_ok (zT20_9 1)) (And.intro rfl ?_)))
                refine And.intro (zDX hD 0 rfl) (zrd (v := (tDe c n (tNq c n p_ + 1) 6)) w97.2 ?_)
                refine And.intro ⟨(by omega), (zRb rfl)⟩ ⟨fun h5_192 => ?_, (fun h5_192 => False.elim (by omega))⟩
                refine And.intro (zDX hD 0 rfl) ⟨_, zW6i (by omega), ?_⟩
                refine hQ _ _ _ ?_ ?_ (fun c j h0 => ((p92bbfr c j h0).trans ((p23bbfr c j h0).trans rfl))) (fun c j h0 => (zxcj h0 rfl)) (by first | omega | (obtain rfl := hr; have w8 := (tDe_sp (p := tNq c n p_ + 1) (m := 6) hc); have w9 := (tDe_sp (p := tNs c p_) (m := 4) hc); have w7 := tNs_le (c := c) (p := p_); have e1 : tNr c n p_ = tDe c n (tNq c n p_ + 1) 6 := rfl; have e2 : tNq c n p_ = tDe c n (tNs c p_) 4 := rfl; omega))
                · first
                  | (rw [tNf_1 (show tBd c (tNs c p_) (tNq c n p_) from w23.1)]
                     exact w23.2)
                  | (rw [tNf_2 w23.1 t82 w97.1]
                     exact w97.2)
                  | (have m_ := t179
                     rw [tNf_3 w23.1 (fun z => by first | exact t82 z.1 | exact t51 z.1) (by rw [t7b]; (first | rw [t82b] | rw [t51b]); omega)]
                     exact zxe.trans (by omega))
                  | (have m_ := t187b
                     rw [tNf_4 w23.1 (fun z => by first | exact t82 z.1 | exact t51 z.1) (by rw [t7b]; (first | rw [t82b] | rw [t51b]); omega)]
                     exact w23.2)
                  | (have m_ := t187
                     rw [tNf_3 w23.1 (fun z => by first | exact t82 z.1 | exact t51 z.1) (by rw [t7b]; (first | rw [t82b] | rw [t51b]); omega)]
                     exact zxe.trans (by omega))
                · intro h9
                  first
                  | (rw [tNf_1 (show tBd c (tNs c p_) (tNq c n p_) from w23.1)] at h9
                     omega)
                  | (rw [tNf_2 w23.1 t82 w97.1] at h9
                     omega)
                  | (have m_ := t179
                     rw [tNf_3 w23.1 (fun z => by first | exact t82 z.1 | exact t51 z.1) (by rw [t7b]; (first | rw [t82b] | rw [t51b]); omega)] at h9
                     omega)
                  | (have m_ := t187b
                     refine ⟨?_, zxe.trans (by rw [t7b]; (first | rw [t82b] | rw [t51b]); omega)⟩
                     rw [tNe_n (by first | exact t82 | exact t51)]
                     exact p23hv)
                  | (have m_ := t187
                     rw [tNf_3 w23.1 (fun z => by first | exact t82 z.1 | exact t51 z.1) (by rw [t7b]; (first | rw [t82b] | rw [t51b]); omega)] at h9
                     omega)
              · refine ⟨_, _, ⟨zW6i (by omega), zW6i (by omega)⟩, fun z186 c186 => ?_⟩
                refine And.intro c186.2.2 ⟨fun h187 => ?_, fun h187 => ?_⟩
                · have t187 : (1 : Int) ≤ 2 := (by decide)
                  have t187b : (1 : Int) ≤ 2 := (by decide)
                  refine And.intro (zDX hD 0 rfl) ⟨_, zW6i (by omega), ?_⟩
                  refine hQ _ _ _ ?_ ?_ (fun c j h0 => ((p92bbfr c j h0).trans ((p23bbfr c j h0).trans rfl))) (fun c j h0 => (zxcj h0 rfl)) (by first | omega | (obtain rfl := hr; have w8 := (tDe_sp (p := tNq c n p_ + 1) (m := 6) hc); have w9 := (tDe_sp (p := tNs c p_) (m := 4) hc); have w7 := tNs_le (c := c) (p := p_); have e1 : tNr c n p_ = tDe c n (tNq c n p_ + 1) 6 := rfl; have e2 : tNq c n p_ = tDe c n (tNs c p_) 4 := rfl; omega))
                  · first
                    | (rw [tNf_1 (show tBd c (tNs c p_) (tNq c n p_) from w23.1)]
                       exact w23.2)
                    | (rw [tNf_2 w23.1 t82 w97.1]
                       exact w97.2)
                    | (have m_ := t179
                       rw [tNf_3 w23.1 (fun z => by first | exact t82 z.1 | exact t51 z.1) (by rw [t7b]; (first | rw [t82b] | rw [t51b]); omega)]
                       exact zxe.trans (by omega))
                    | (have m_ := t187b
                       rw [tNf_4 w23.1 (fun z => by first | exact t82 z.1 | exact t51 z.1) (by rw [t7b]; (first | rw [t82b] | rw [t51b]); omega)]
                       exact w23.2)
                    | (have m_ := t187
                       rw [tNf_3 w23.1 (fun z => by first | exact t82 z.1 | exact t51 z.1) (by rw [t7b]; (first | rw [t82b] | rw [t51b]); omega)]
                       exact zxe.trans (by omega))
                  · intro h9
                    first
                    | (rw [tNf_1 (show tBd c (tNs c p_) (tNq c n p_) from w23.1)] at h9
                       omega)
                    | (rw [tNf_2 w23.1 t82 w97.1] at h9
                       omega)
                    | (have m_ := t179
                       rw [tNf_3 w23.1 (fun z => by first | exact t82 z.1 | exact t51 z.1) (by rw [t7b]; (first | rw [t82b] | rw [t51b]); omega)] at h9
                       omega)
                    | (have m_ := t187b
                       refine ⟨?_, zxe.trans (by rw [t7b]; (first | rw [t82b] | rw [t51b]); omega)⟩
                       rw [tNe_n (by first | exact t82 | exact t51)]
                       exact p23hv)
                    | (have m_ := t187
                       rw [tNf_3 w23.1 (fun z => by first | exact t82 z.1 | exact t51 z.1) (by rw [t7b]; (first | rw [t82b] | rw [t51b]); omega)] at h9
                       omega)
                · have t187 : (1 : Int) ≤ 2 := (by decide)
                  refine And.intro (zDX hD 0 rfl) (Exists.intro _ (And.intro (zinl_ok (zT20_9 1)) (And.intro rfl ?_)))
                  refine And.intro (zDX hD 0 rfl) (zrd (v := (tDe c n (tNq c n p_ + 1) 6)) w97.2 ?_)
                  refine And.intro ⟨(by omega), (zRb rfl)⟩ ⟨fun h5_192 => ?_, (fun h5_192 => False.elim (by omega))⟩
                  refine And.intro (zDX hD 0 rfl) ⟨_, zW6i (by omega), ?_⟩
                  refine hQ _ _ _ ?_ ?_ (fun c j h0 => ((p92bbfr c j h0).trans ((p23bbfr c j h0).trans rfl))) (fun c j h0 => (zxcj h0 rfl)) (by first | omega | (obtain rfl := hr; have w8 := (tDe_sp (p := tNq c n p_ + 1) (m := 6) hc); have w9 := (tDe_sp (p := tNs c p_) (m := 4) hc); have w7 := tNs_le (c := c) (p := p_); have e1 : tNr c n p_ = tDe c n (tNq c n p_ + 1) 6 := rfl; have e2 : tNq c n p_ = tDe c n (tNs c p_) 4 := rfl; omega))
                  · first
                    | (rw [tNf_1 (show tBd c (tNs c p_) (tNq c n p_) from w23.1)]
                       exact w23.2)
                    | (rw [tNf_2 w23.1 t82 w97.1]
                       exact w97.2)
                    | (have m_ := t179
                       rw [tNf_3 w23.1 (fun z => by first | exact t82 z.1 | exact t51 z.1) (by rw [t7b]; (first | rw [t82b] | rw [t51b]); omega)]
                       exact zxe.trans (by omega))
                    | (have m_ := t187b
                       rw [tNf_4 w23.1 (fun z => by first | exact t82 z.1 | exact t51 z.1) (by rw [t7b]; (first | rw [t82b] | rw [t51b]); omega)]
                       exact w23.2)
                    | (have m_ := t187
                       rw [tNf_3 w23.1 (fun z => by first | exact t82 z.1 | exact t51 z.1) (by rw [t7b]; (first | rw [t82b] | rw [t51b]); omega)]
                       exact zxe.trans (by omega))
                  · intro h9
                    first
                    | (rw [tNf_1 (show tBd c (tNs c p_) (tNq c n p_) from w23.1)] at h9
                       omega)
                    | (rw [tNf_2 w23.1 t82 w97.1] at h9
                       omega)
                    | (have m_ := t179
                       rw [tNf_3 w23.1 (fun z => by first | exact t82 z.1 | exact t51 z.1) (by rw [t7b]; (first | rw [t82b] | rw [t51b]); omega)] at h9
                       omega)
                    | (have m_ := t187b
                       refine ⟨?_, zxe.trans (by rw [t7b]; (first | rw [t82b] | rw [t51b]); omega)⟩
                       rw [tNe_n (by first | exact t82 | exact t51)]
                       exact p23hv)
                    | (have m_ := t187
                       rw [tNf_3 w23.1 (fun z => by first | exact t82 z.1 | exact t51 z.1) (by rw [t7b]; (first | rw [t82b] | rw [t51b]); omega)] at h9
                       omega)
      · refine And.intro (zDX hD 0 rfl) (zrd (v := (tDe c n (tNs c p_) 4)) w23.2 ?_)
        refine And.intro ⟨(by omega), (zRb rfl)⟩ ⟨fun h33 => ?_, (fun h33 => False.elim (by omega))⟩
        refine And.intro (by omega) ⟨fun h51 => ?_, fun h51 => ?_⟩
        · have t51 : ¬ tFr c (tNq c n p_) b_ := (fun w => by have w1 := w.1; omega)
          have t51b : tNu c n p_ b_ = tVl c (tNs c p_) (tNq c n p_ - tNs c p_) := (tNu_0 (by omega))
          refine And.intro (by omega) ⟨fun h63 => ?_, (fun h63 => False.elim (by omega))⟩
          refine And.intro ⟨(by omega), (by omega)⟩ ⟨fun h161 => ?_, (fun h161 => False.elim (by omega))⟩
          refine ⟨_, _, ⟨zW6i (zRL rfl), zW6i (by omega)⟩, fun z178 c178 => ?_⟩
          refine And.intro c178.2.2 ⟨fun h179 => ?_, fun h179 => ?_⟩
          · have t179 : (1 : Int) ≤ 2 := (by decide)
            refine And.intro (zDX hD 0 rfl) (Exists.intro _ (And.intro (zinl_ok (zT20_9 1)) (And.intro rfl ?_)))
            refine And.intro (zDX hD 0 rfl) (zrd (v := (tDe c n (tNs c p_) 4)) w23.2 ?_)
            refine And.intro ⟨(by omega), (zRb rfl)⟩ ⟨fun h5_192 => ?_, (fun h5_192 => False.elim (by omega))⟩
            refine And.intro (zDX hD 0 rfl) ⟨_, zW6i (zRL rfl), ?_⟩
            refine hQ _ _ _ ?_ ?_ (fun c j h0 => ((p23bbfr c j h0).trans rfl)) (fun c j h0 => (zxcj h0 rfl)) (by first | omega | (obtain rfl := hr; have w8 := (tDe_sp (p := tNq c n p_ + 1) (m := 6) hc); have w9 := (tDe_sp (p := tNs c p_) (m := 4) hc); have w7 := tNs_le (c := c) (p := p_); have e1 : tNr c n p_ = tDe c n (tNq c n p_ + 1) 6 := rfl; have e2 : tNq c n p_ = tDe c n (tNs c p_) 4 := rfl; omega))
            · first
              | (rw [tNf_1 (show tBd c (tNs c p_) (tNq c n p_) from w23.1)]
                 exact w23.2)
              | (rw [tNf_2 w23.1 t82 w97.1]
                 exact w97.2)
              | (have m_ := t179
                 rw [tNf_3 w23.1 (fun z => by first | exact t82 z.1 | exact t51 z.1) (by rw [t7b]; (first | rw [t82b] | rw [t51b]); omega)]
                 exact zxe.trans (by omega))
              | (have m_ := t187b
                 rw [tNf_4 w23.1 (fun z => by first | exact t82 z.1 | exact t51 z.1) (by rw [t7b]; (first | rw [t82b] | rw [t51b]); omega)]
                 exact w23.2)
              | (have m_ := t187
                 rw [tNf_3 w23.1 (fun z => by first | exact t82 z.1 | exact t51 z.1) (by rw [t7b]; (first | rw [t82b] | rw [t51b]); omega)]
                 exact zxe.trans (by omega))
            · intro h9
              first
              | (rw [tNf_1 (show tBd c (tNs c p_) (tNq c n p_) from w23.1)] at h9
                 omega)
              | (rw [tNf_2 w23.1 t82 w97.1] at h9
                 omega)
              | (have m_ := t179
                 rw [tNf_3 w23.1 (fun z => by first | exact t82 z.1 | exact t51 z.1) (by rw [t7b]; (first | rw [t82b] | rw [t51b]); omega)] at h9
                 omega)
              | (have m_ := t187b
                 refine ⟨?_, zxe.trans (by rw [t7b]; (first | rw [t82b] | rw [t51b]); omega)⟩
                 rw [tNe_n (by first | exact t82 | exact t51)]
                 exact p23hv)
              | (have m_ := t187
                 rw [tNf_3 w23.1 (fun z => by first | exact t82 z.1 | exact t51 z.1) (by rw [t7b]; (first | rw [t82b] | rw [t51b]); omega)] at h9
                 omega)
          · refine ⟨_, _, ⟨zW6i (zRL rfl), zW6i (by omega)⟩, fun z186 c186 => ?_⟩
            refine And.intro c186.2.2 ⟨fun h187 => ?_, fun h187 => ?_⟩
            · have t187 : (1 : Int) ≤ 2 := (by decide)
              have t187b : (1 : Int) ≤ 2 := (by decide)
              refine And.intro (zDX hD 0 rfl) ⟨_, zW6i (zRL rfl), ?_⟩
              refine hQ _ _ _ ?_ ?_ (fun c j h0 => ((p23bbfr c j h0).trans rfl)) (fun c j h0 => (zxcj h0 rfl)) (by first | omega | (obtain rfl := hr; have w8 := (tDe_sp (p := tNq c n p_ + 1) (m := 6) hc); have w9 := (tDe_sp (p := tNs c p_) (m := 4) hc); have w7 := tNs_le (c := c) (p := p_); have e1 : tNr c n p_ = tDe c n (tNq c n p_ + 1) 6 := rfl; have e2 : tNq c n p_ = tDe c n (tNs c p_) 4 := rfl; omega))
              · first
                | (rw [tNf_1 (show tBd c (tNs c p_) (tNq c n p_) from w23.1)]
                   exact w23.2)
                | (rw [tNf_2 w23.1 t82 w97.1]
                   exact w97.2)
                | (have m_ := t179
                   rw [tNf_3 w23.1 (fun z => by first | exact t82 z.1 | exact t51 z.1) (by rw [t7b]; (first | rw [t82b] | rw [t51b]); omega)]
                   exact zxe.trans (by omega))
                | (have m_ := t187b
                   rw [tNf_4 w23.1 (fun z => by first | exact t82 z.1 | exact t51 z.1) (by rw [t7b]; (first | rw [t82b] | rw [t51b]); omega)]
                   exact w23.2)
                | (have m_ := t187
                   rw [tNf_3 w23.1 (fun z => by first | exact t82 z.1 | exact t51 z.1) (by rw [t7b]; (first | rw [t82b] | rw [t51b]); omega)]
                   exact zxe.trans (by omega))
              · intro h9
                first
                | (rw [tNf_1 (show tBd c (tNs c p_) (tNq c n p_) from w23.1)] at h9
                   omega)
                | (rw [tNf_2 w23.1 t82 w97.1] at h9
                   omega)
                | (have m_ := t179
                   rw [tNf_3 w23.1 (fun z => by first | exact t82 z.1 | exact t51 z.1) (by rw [t7b]; (first | rw [t82b] | rw [t51b]); omega)] at h9
                   omega)
                | (have m_ := t187b
                   refine ⟨?_, zxe.trans (by rw [t7b]; (first | rw [t82b] | rw [t51b]); omega)⟩
                   rw [tNe_n (by first | exact t82 | exact t51)]
                   exact p23hv)
                | (have m_ := t187
                   rw [tNf_3 w23.1 (fun z => by first | exact t82 z.1 | exact t51 z.1) (by rw [t7b]; (first | rw [t82b] | rw [t51b]); omega)] at h9
                   omega)
            · have t187 : (1 : Int) ≤ 2 := (by decide)
              refine And.intro (zDX hD 0 rfl) (Exists.intro _ (And.intro (zinl_ok (zT20_9 1)) (And.intro rfl ?_)))
              refine And.intro (zDX hD 0 rfl) (zrd (v := (tDe c n (tNs c p_) 4)) w23.2 ?_)
              refine And.intro ⟨(by omega), (zRb rfl)⟩ ⟨fun h5_192 => ?_, (fun h5_192 => False.elim (by omega))⟩
              refine And.intro (zDX hD 0 rfl) ⟨_, zW6i (zRL rfl), ?_⟩
              refine hQ _ _ _ ?_ ?_ (fun c j h0 => ((p23bbfr c j h0).trans rfl)) (fun c j h0 => (zxcj h0 rfl)) (by first | omega | (obtain rfl := hr; have w8 := (tDe_sp (p := tNq c n p_ + 1) (m := 6) hc); have w9 := (tDe_sp (p := tNs c p_) (m := 4) hc); have w7 := tNs_le (c := c) (p := p_); have e1 : tNr c n p_ = tDe c n (tNq c n p_ + 1) 6 := rfl; have e2 : tNq c n p_ = tDe c n (tNs c p_) 4 := rfl; omega))
              · first
                | (rw [tNf_1 (show tBd c (tNs c p_) (tNq c n p_) from w23.1)]
                   exact w23.2)
                | (rw [tNf_2 w23.1 t82 w97.1]
                   exact w97.2)
                | (have m_ := t179
                   rw [tNf_3 w23.1 (fun z => by first | exact t82 z.1 | exact t51 z.1) (by rw [t7b]; (first | rw [t82b] | rw [t51b]); omega)]
                   exact zxe.trans (by omega))
                | (have m_ := t187b
                   rw [tNf_4 w23.1 (fun z => by first | exact t82 z.1 | exact t51 z.1) (by rw [t7b]; (first | rw [t82b] | rw [t51b]); omega)]
                   exact w23.2)
                | (have m_ := t187
                   rw [tNf_3 w23.1 (fun z => by first | exact t82 z.1 | exact t51 z.1) (by rw [t7b]; (first | rw [t82b] | rw [t51b]); omega)]
                   exact zxe.trans (by omega))
              · intro h9
                first
                | (rw [tNf_1 (show tBd c (tNs c p_) (tNq c n p_) from w23.1)] at h9
                   omega)
                | (rw [tNf_2 w23.1 t82 w97.1] at h9
                   omega)
                | (have m_ := t179
                   rw [tNf_3 w23.1 (fun z => by first | exact t82 z.1 | exact t51 z.1) (by rw [t7b]; (first | rw [t82b] | rw [t51b]); omega)] at h9
                   omega)
                | (have m_ := t187b
                   refine ⟨?_, zxe.trans (by rw [t7b]; (first | rw [t82b] | rw [t51b]); omega)⟩
                   rw [tNe_n (by first | exact t82 | exact t51)]
                   exact p23hv)
                | (have m_ := t187
                   rw [tNf_3 w23.1 (fun z => by first | exact t82 z.1 | exact t51 z.1) (by rw [t7b]; (first | rw [t82b] | rw [t51b]); omega)] at h9
                   omega)
        · have t51 : b_ = 1 := (by omega)
          refine And.intro (by omega) ⟨(fun h63 => False.elim (by omega)), fun h63 => ?_⟩
          refine And.intro (zDX hD 0 rfl) (zrd (v := (tDe c n (tNs c p_) 4)) w23.2 ?_)
          refine And.intro ⟨(by omega), (zRb rfl)⟩ ⟨fun h71 => ?_, (fun h71 => False.elim (by omega))⟩
          refine And.intro ⟨(by omega), (by omega)⟩ ⟨fun h161 => ?_, (fun h161 => False.elim (by omega))⟩
          refine ⟨_, _, ⟨zW6i (zRL rfl), zW6i (by omega)⟩, fun z178 c178 => ?_⟩
          refine And.intro c178.2.2 ⟨fun h179 => ?_, fun h179 => ?_⟩
          · have t179 : (1 : Int) ≤ 2 := (by decide)
            refine And.intro (zDX hD 0 rfl) (Exists.intro _ (And.intro (zinl_ok (zT20_9 1)) (And.intro rfl ?_)))
            refine And.intro (zDX hD 0 rfl) (zrd (v := (tDe c n (tNs c p_) 4)) w23.2 ?_)
            refine And.intro ⟨(by omega), (zRb rfl)⟩ ⟨fun h5_192 => ?_, (fun h5_192 => False.elim (by omega))⟩
            refine And.intro (zDX hD 0 rfl) ⟨_, zW6i (zRL rfl), ?_⟩
            refine hQ _ _ _ ?_ ?_ (fun c j h0 => ((p23bbfr c j h0).trans rfl)) (fun c j h0 => (zxcj h0 rfl)) (by first | omega | (obtain rfl := hr; have w8 := (tDe_sp (p := tNq c n p_ + 1) (m := 6) hc); have w9 := (tDe_sp (p := tNs c p_) (m := 4) hc); have w7 := tNs_le (c := c) (p := p_); have e1 : tNr c n p_ = tDe c n (tNq c n p_ + 1) 6 := rfl; have e2 : tNq c n p_ = tDe c n (tNs c p_) 4 := rfl; omega))
            · first
              | (rw [tNf_1 (show tBd c (tNs c p_) (tNq c n p_) from w23.1)]
                 exact w23.2)
              | (rw [tNf_2 w23.1 t82 w97.1]
                 exact w97.2)
              | (have m_ := t179
                 rw [tNf_3 w23.1 (fun z => by first | exact t82 z.1 | exact t51 z.1) (by rw [t7b]; (first | rw [t82b] | rw [t51b]); omega)]
                 exact zxe.trans (by omega))
              | (have m_ := t187b
                 rw [tNf_4 w23.1 (fun z => by first | exact t82 z.1 | exact t51 z.1) (by rw [t7b]; (first | rw [t82b] | rw [t51b]); omega)]
                 exact w23.2)
              | (have m_ := t187
                 rw [tNf_3 w23.1 (fun z => by first | exact t82 z.1 | exact t51 z.1) (by rw [t7b]; (first | rw [t82b] | rw [t51b]); omega)]
                 exact zxe.trans (by omega))
            · intro h9
              first
              | (rw [tNf_1 (show tBd c (tNs c p_) (tNq c n p_) from w23.1)] at h9
                 omega)
              | (rw [tNf_2 w23.1 t82 w97.1] at h9
                 omega)
              | (have m_ := t179
                 rw [tNf_3 w23.1 (fun z => by first | exact t82 z.1 | exact t51 z.1) (by rw [t7b]; (first | rw [t82b] | rw [t51b]); omega)] at h9
                 omega)
              | (have m_ := t187b
                 refine ⟨?_, zxe.trans (by rw [t7b]; (first | rw [t82b] | rw [t51b]); omega)⟩
                 rw [tNe_n (by first | exact t82 | exact t51)]
                 exact p23hv)
              | (have m_ := t187
                 rw [tNf_3 w23.1 (fun z => by first | exact t82 z.1 | exact t51 z.1) (by rw [t7b]; (first | rw [t82b] | rw [t51b]); omega)] at h9
                 omega)
          · refine ⟨_, _, ⟨zW6i (zRL rfl), zW6i (by omega)⟩, fun z186 c186 => ?_⟩
            refine And.intro c186.2.2 ⟨fun h187 => ?_, fun h187 => ?_⟩
            · have t187 : (1 : Int) ≤ 2 := (by decide)
              have t187b : (1 : Int) ≤ 2 := (by decide)
              refine And.intro (zDX hD 0 rfl) ⟨_, zW6i (zRL rfl), ?_⟩
              refine hQ _ _ _ ?_ ?_ (fun c j h0 => ((p23bbfr c j h0).trans rfl)) (fun c j h0 => (zxcj h0 rfl)) (by first | omega | (obtain rfl := hr; have w8 := (tDe_sp (p := tNq c n p_ + 1) (m := 6) hc); have w9 := (tDe_sp (p := tNs c p_) (m := 4) hc); have w7 := tNs_le (c := c) (p := p_); have e1 : tNr c n p_ = tDe c n (tNq c n p_ + 1) 6 := rfl; have e2 : tNq c n p_ = tDe c n (tNs c p_) 4 := rfl; omega))
              · first
                | (rw [tNf_1 (show tBd c (tNs c p_) (tNq c n p_) from w23.1)]
                   exact w23.2)
                | (rw [tNf_2 w23.1 t82 w97.1]
                   exact w97.2)
                | (have m_ := t179
                   rw [tNf_3 w23.1 (fun z => by first | exact t82 z.1 | exact t51 z.1) (by rw [t7b]; (first | rw [t82b] | rw [t51b]); omega)]
                   exact zxe.trans (by omega))
                | (have m_ := t187b
                   rw [tNf_4 w23.1 (fun z => by first | exact t82 z.1 | exact t51 z.1) (by rw [t7b]; (first | rw [t82b] | rw [t51b]); omega)]
                   exact w23.2)
                | (have m_ := t187
                   rw [tNf_3 w23.1 (fun z => by first | exact t82 z.1 | exact t51 z.1) (by rw [t7b]; (first | rw [t82b] | rw [t51b]); omega)]
                   exact zxe.trans (by omega))
              · intro h9
                first
                | (rw [tNf_1 (show tBd c (tNs c p_) (tNq c n p_) from w23.1)] at h9
                   omega)
                | (rw [tNf_2 w23.1 t82 w97.1] at h9
                   omega)
                | (have m_ := t179
                   rw [tNf_3 w23.1 (fun z => by first | exact t82 z.1 | exact t51 z.1) (by rw [t7b]; (first | rw [t82b] | rw [t51b]); omega)] at h9
                   omega)
                | (have m_ := t187b
                   refine ⟨?_, zxe.trans (by rw [t7b]; (first | rw [t82b] | rw [t51b]); omega)⟩
                   rw [tNe_n (by first | exact t82 | exact t51)]
                   exact p23hv)
                | (have m_ := t187
                   rw [tNf_3 w23.1 (fun z => by first | exact t82 z.1 | exact t51 z.1) (by rw [t7b]; (first | rw [t82b] | rw [t51b]); omega)] at h9
                   omega)
            · have t187 : (1 : Int) ≤ 2 := (by decide)
              refine And.intro (zDX hD 0 rfl) (Exists.intro _ (And.intro (zinl_ok (zT20_9 1)) (And.intro rfl ?_)))
              refine And.intro (zDX hD 0 rfl) (zrd (v := (tDe c n (tNs c p_) 4)) w23.2 ?_)
              refine And.intro ⟨(by omega), (zRb rfl)⟩ ⟨fun h5_192 => ?_, (fun h5_192 => False.elim (by omega))⟩
              refine And.intro (zDX hD 0 rfl) ⟨_, zW6i (zRL rfl), ?_⟩
              refine hQ _ _ _ ?_ ?_ (fun c j h0 => ((p23bbfr c j h0).trans rfl)) (fun c j h0 => (zxcj h0 rfl)) (by first | omega | (obtain rfl := hr; have w8 := (tDe_sp (p := tNq c n p_ + 1) (m := 6) hc); have w9 := (tDe_sp (p := tNs c p_) (m := 4) hc); have w7 := tNs_le (c := c) (p := p_); have e1 : tNr c n p_ = tDe c n (tNq c n p_ + 1) 6 := rfl; have e2 : tNq c n p_ = tDe c n (tNs c p_) 4 := rfl; omega))
              · first
                | (rw [tNf_1 (show tBd c (tNs c p_) (tNq c n p_) from w23.1)]
                   exact w23.2)
                | (rw [tNf_2 w23.1 t82 w97.1]
                   exact w97.2)
                | (have m_ := t179
                   rw [tNf_3 w23.1 (fun z => by first | exact t82 z.1 | exact t51 z.1) (by rw [t7b]; (first | rw [t82b] | rw [t51b]); omega)]
                   exact zxe.trans (by omega))
                | (have m_ := t187b
                   rw [tNf_4 w23.1 (fun z => by first | exact t82 z.1 | exact t51 z.1) (by rw [t7b]; (first | rw [t82b] | rw [t51b]); omega)]
                   exact w23.2)
                | (have m_ := t187
                   rw [tNf_3 w23.1 (fun z => by first | exact t82 z.1 | exact t51 z.1) (by rw [t7b]; (first | rw [t82b] | rw [t51b]); omega)]
                   exact zxe.trans (by omega))
              · intro h9
                first
                | (rw [tNf_1 (show tBd c (tNs c p_) (tNq c n p_) from w23.1)] at h9
                   omega)
                | (rw [tNf_2 w23.1 t82 w97.1] at h9
                   omega)
                | (have m_ := t179
                   rw [tNf_3 w23.1 (fun z => by first | exact t82 z.1 | exact t51 z.1) (by rw [t7b]; (first | rw [t82b] | rw [t51b]); omega)] at h9
                   omega)
                | (have m_ := t187b
                   refine ⟨?_, zxe.trans (by rw [t7b]; (first | rw [t82b] | rw [t51b]); omega)⟩
                   rw [tNe_n (by first | exact t82 | exact t51)]
                   exact p23hv)
                | (have m_ := t187
                   rw [tNf_3 w23.1 (fun z => by first | exact t82 z.1 | exact t51 z.1) (by rw [t7b]; (first | rw [t82b] | rw [t51b]); omega)] at h9
                   omega)
    · have t7 : tNs c p_ = p_ + 1 := (tNs_y (by omega))
      have t7b : tNv c n p_ b_ = -(tNu c n p_ b_) := (tNv_y (by omega))
      refine And.intro (zDX hD 0 rfl) ⟨_, sn_V_dig.up (by decide), ?_⟩
      refine ⟨k, c, n, ((p + 1) : Int), (tNs c p_), (4 : Int), 4, rfl, hD, (by first | exact (zRM_fr hX (fun c j h => rfl)) | (clear hQ; grind [xu])), (by first | exact hc | (clear hQ; grind [xu])), (by omega), (by omega), (Eq.trans (b := ((-1) : Int)) hf0 (by omega)), ?_⟩
      intro v23o I23o p23hv p23bhf p23bbfr
      have g23 : v23o = tNq c n p_ := p23hv
      have g23b : tNs c p_ ≤ tNq c n p_ ∧ tNq c n p_ ≤ tNs c p_ + 4 := (by have w := tDe_sp (p := tNs c p_) (m := 4) hc; exact ⟨w.1, w.2.1⟩)
      rcases p23bhf with w23 | w23
      · refine And.intro (zDX hD 0 rfl) (zrd (v := (-1)) w23.2 ?_)
        refine And.intro ⟨(zRb rfl), (zRb rfl)⟩ (zbf rfl ?_)
        refine And.intro (zDX hD 0 rfl) ⟨_, sn_V_val.up (by decide), ?_⟩
        refine ⟨k, c, n, ((p + 1) : Int), (tNs c p_), (v23o : Int), (tNq c n p_), rfl, hD, (by first | exact (zRM_fr hX (fun c j h => ((p23bbfr c j (by omega)).trans rfl))) | (clear hQ; grind [xu])), (by first | exact hc | (clear hQ; grind [xu])), (by omega), ⟨by omega, by omega, by omega, (tDe_sp hc).2.2.2⟩, (tDe_sp hc).2.2.1, ?_⟩
        intro v41o p41hv p41bhv2
        have g41 : v41o = tVl c (tNs c p_) (tNq c n p_ - tNs c p_) := p41hv
        have g41b : 0 ≤ v41o ∧ v41o ≤ 9999 := (by have w := tDe_sp (p := tNs c p_) (m := 4) hc; have w2 := tVl_b (c := c) (p := tNs c p_) (n := tNq c n p_ - tNs c p_) (fun i h1 h2 => w.2.2.1 i h1 (by show i < tNq c n p_; omega)) (Nat.le_refl _); omega)
        refine And.intro (by omega) ⟨fun h51 => ?_, fun h51 => ?_⟩
        · have t51 : ¬ tFr c (tNq c n p_) b_ := (fun w => by have w1 := w.1; omega)
          have t51b : tNu c n p_ b_ = tVl c (tNs c p_) (tNq c n p_ - tNs c p_) := (tNu_0 (by omega))
          refine And.intro (by omega) ⟨fun h63 => ?_, (fun h63 => False.elim (by omega))⟩
          refine And.intro ⟨(by omega), (by omega)⟩ ⟨(fun h161 => False.elim (by omega)), fun h161 => ?_⟩
          refine ⟨_, _, ⟨zW6i (by omega), zW6i (by omega)⟩, fun z178 c178 => ?_⟩
          refine And.intro c178.2.2 ⟨fun h179 => ?_, fun h179 => ?_⟩
          · have t179 : (1 : Int) ≤ 2 := (by decide)
            refine And.intro (zDX hD 0 rfl) (Exists.intro _ (And.intro (zinl_ok (zT20_9 1)) (And.intro rfl ?_)))
            refine And.intro (zDX hD 0 rfl) (zrd (v := (-1)) w23.2 ?_)
            refine And.intro ⟨(zRb rfl), (zRb rfl)⟩ (zbf rfl ?_)
            refine And.intro (zDX hD 0 rfl) ⟨_, (zWi (by omega)), ?_⟩
            refine And.intro (zDX hD 0 rfl) ⟨_, zW6i (by omega), ?_⟩
            refine hQ _ _ _ ?_ ?_ (fun c j h0 => (zxcj h0 ((p23bbfr c j h0).trans rfl))) (fun c j h0 => (zxcj h0 rfl)) (by first | omega | (obtain rfl := hr; have w8 := (tDe_sp (p := tNq c n p_ + 1) (m := 6) hc); have w9 := (tDe_sp (p := tNs c p_) (m := 4) hc); have w7 := tNs_le (c := c) (p := p_); have e1 : tNr c n p_ = tDe c n (tNq c n p_ + 1) 6 := rfl; have e2 : tNq c n p_ = tDe c n (tNs c p_) 4 := rfl; omega))
            · first
              | (rw [tNf_1 (show tBd c (tNs c p_) (tNq c n p_) from w23.1)]
                 exact w23.2)
              | (rw [tNf_2 w23.1 t82 w97.1]
                 exact w97.2)
              | (have m_ := t179
                 rw [tNf_3 w23.1 (fun z => by first | exact t82 z.1 | exact t51 z.1) (by rw [t7b]; (first | rw [t82b] | rw [t51b]); omega)]
                 exact zxe.trans (by omega))
              | (have m_ := t187b
                 rw [tNf_4 w23.1 (fun z => by first | exact t82 z.1 | exact t51 z.1) (by rw [t7b]; (first | rw [t82b] | rw [t51b]); omega)]
                 exact w23.2)
              | (have m_ := t187
                 rw [tNf_3 w23.1 (fun z => by first | exact t82 z.1 | exact t51 z.1) (by rw [t7b]; (first | rw [t82b] | rw [t51b]); omega)]
                 exact zxe.trans (by omega))
            · intro h9
              first
              | (rw [tNf_1 (show tBd c (tNs c p_) (tNq c n p_) from w23.1)] at h9
                 omega)
              | (rw [tNf_2 w23.1 t82 w97.1] at h9
                 omega)
              | (have m_ := t179
                 rw [tNf_3 w23.1 (fun z => by first | exact t82 z.1 | exact t51 z.1) (by rw [t7b]; (first | rw [t82b] | rw [t51b]); omega)] at h9
                 omega)
              | (have m_ := t187b
                 refine ⟨?_, zxe.trans (by rw [t7b]; (first | rw [t82b] | rw [t51b]); omega)⟩
                 rw [tNe_n (by first | exact t82 | exact t51)]
                 exact p23hv)
              | (have m_ := t187
                 rw [tNf_3 w23.1 (fun z => by first | exact t82 z.1 | exact t51 z.1) (by rw [t7b]; (first | rw [t82b] | rw [t51b]); omega)] at h9
                 omega)
          · refine ⟨_, _, ⟨zW6i (by omega), zW6i (by omega)⟩, fun z186 c186 => ?_⟩
            refine And.intro c186.2.2 ⟨fun h187 => ?_, fun h187 => ?_⟩
            · have t187 : (1 : Int) ≤ 2 := (by decide)
              have t187b : (1 : Int) ≤ 2 := (by decide)
              refine And.intro (zDX hD 0 rfl) ⟨_, zW6i (by omega), ?_⟩
              refine hQ _ _ _ ?_ ?_ (fun c j h0 => ((p23bbfr c j h0).trans rfl)) (fun c j h0 => (zxcj h0 rfl)) (by first | omega | (obtain rfl := hr; have w8 := (tDe_sp (p := tNq c n p_ + 1) (m := 6) hc); have w9 := (tDe_sp (p := tNs c p_) (m := 4) hc); have w7 := tNs_le (c := c) (p := p_); have e1 : tNr c n p_ = tDe c n (tNq c n p_ + 1) 6 := rfl; have e2 : tNq c n p_ = tDe c n (tNs c p_) 4 := rfl; omega))
              · first
                | (rw [tNf_1 (show tBd c (tNs c p_) (tNq c n p_) from w23.1)]
                   exact w23.2)
                | (rw [tNf_2 w23.1 t82 w97.1]
                   exact w97.2)
                | (have m_ := t179
                   rw [tNf_3 w23.1 (fun z => by first | exact t82 z.1 | exact t51 z.1) (by rw [t7b]; (first | rw [t82b] | rw [t51b]); omega)]
                   exact zxe.trans (by omega))
                | (have m_ := t187b
                   rw [tNf_4 w23.1 (fun z => by first | exact t82 z.1 | exact t51 z.1) (by rw [t7b]; (first | rw [t82b] | rw [t51b]); omega)]
                   exact w23.2)
                | (have m_ := t187
                   rw [tNf_3 w23.1 (fun z => by first | exact t82 z.1 | exact t51 z.1) (by rw [t7b]; (first | rw [t82b] | rw [t51b]); omega)]
                   exact zxe.trans (by omega))
              · intro h9
                first
                | (rw [tNf_1 (show tBd c (tNs c p_) (tNq c n p_) from w23.1)] at h9
                   omega)
                | (rw [tNf_2 w23.1 t82 w97.1] at h9
                   omega)
                | (have m_ := t179
                   rw [tNf_3 w23.1 (fun z => by first | exact t82 z.1 | exact t51 z.1) (by rw [t7b]; (first | rw [t82b] | rw [t51b]); omega)] at h9
                   omega)
                | (have m_ := t187b
                   refine ⟨?_, zxe.trans (by rw [t7b]; (first | rw [t82b] | rw [t51b]); omega)⟩
                   rw [tNe_n (by first | exact t82 | exact t51)]
                   exact p23hv)
                | (have m_ := t187
                   rw [tNf_3 w23.1 (fun z => by first | exact t82 z.1 | exact t51 z.1) (by rw [t7b]; (first | rw [t82b] | rw [t51b]); omega)] at h9
                   omega)
            · have t187 : (1 : Int) ≤ 2 := (by decide)
              refine And.intro (zDX hD 0 rfl) (Exists.intro _ (And.intro (zinl_ok (zT20_9 1)) (And.intro rfl ?_)))
              refine And.intro (zDX hD 0 rfl) (zrd (v := (-1)) w23.2 ?_)
              refine And.intro ⟨(zRb rfl), (zRb rfl)⟩ (zbf rfl ?_)
              refine And.intro (zDX hD 0 rfl) ⟨_, (zWi (by omega)), ?_⟩
              refine And.intro (zDX hD 0 rfl) ⟨_, zW6i (by omega), ?_⟩
              refine hQ _ _ _ ?_ ?_ (fun c j h0 => (zxcj h0 ((p23bbfr c j h0).trans rfl))) (fun c j h0 => (zxcj h0 rfl)) (by first | omega | (obtain rfl := hr; have w8 := (tDe_sp (p := tNq c n p_ + 1) (m := 6) hc); have w9 := (tDe_sp (p := tNs c p_) (m := 4) hc); have w7 := tNs_le (c := c) (p := p_); have e1 : tNr c n p_ = tDe c n (tNq c n p_ + 1) 6 := rfl; have e2 : tNq c n p_ = tDe c n (tNs c p_) 4 := rfl; omega))
              · first
                | (rw [tNf_1 (show tBd c (tNs c p_) (tNq c n p_) from w23.1)]
                   exact w23.2)
                | (rw [tNf_2 w23.1 t82 w97.1]
                   exact w97.2)
                | (have m_ := t179
                   rw [tNf_3 w23.1 (fun z => by first | exact t82 z.1 | exact t51 z.1) (by rw [t7b]; (first | rw [t82b] | rw [t51b]); omega)]
                   exact zxe.trans (by omega))
                | (have m_ := t187b
                   rw [tNf_4 w23.1 (fun z => by first | exact t82 z.1 | exact t51 z.1) (by rw [t7b]; (first | rw [t82b] | rw [t51b]); omega)]
                   exact w23.2)
                | (have m_ := t187
                   rw [tNf_3 w23.1 (fun z => by first | exact t82 z.1 | exact t51 z.1) (by rw [t7b]; (first | rw [t82b] | rw [t51b]); omega)]
                   exact zxe.trans (by omega))
              · intro h9
                first
                | (rw [tNf_1 (show tBd c (tNs c p_) (tNq c n p_) from w23.1)] at h9
                   omega)
                | (rw [tNf_2 w23.1 t82 w97.1] at h9
                   omega)
                | (have m_ := t179
                   rw [tNf_3 w23.1 (fun z => by first | exact t82 z.1 | exact t51 z.1) (by rw [t7b]; (first | rw [t82b] | rw [t51b]); omega)] at h9
                   omega)
                | (have m_ := t187b
                   refine ⟨?_, zxe.trans (by rw [t7b]; (first | rw [t82b] | rw [t51b]); omega)⟩
                   rw [tNe_n (by first | exact t82 | exact t51)]
                   exact p23hv)
                | (have m_ := t187
                   rw [tNf_3 w23.1 (fun z => by first | exact t82 z.1 | exact t51 z.1) (by rw [t7b]; (first | rw [t82b] | rw [t51b]); omega)] at h9
                   omega)
        · have t51 : b_ = 1 := (by omega)
          refine And.intro (by omega) ⟨(fun h63 => False.elim (by omega)), fun h63 => ?_⟩
          refine And.intro (zDX hD 0 rfl) (zrd (v := (-1)) w23.2 ?_)
          refine And.intro ⟨(zRb rfl), (zRb rfl)⟩ (zbf rfl ?_)
          refine And.intro (zDX hD 0 rfl) ⟨_, sn_V_c.up (by decide), ?_⟩
          refine ⟨k, c, n, (v23o : Int), (tNq c n p_), rfl, hD, (by first | exact (zRM_fr hX (fun c j h => ((p23bbfr c j (by omega)).trans rfl))) | (clear hQ; grind [xu])), (by first | exact hc | (clear hQ; grind [xu])), (by omega), ?_⟩
          intro v77o p77hv p77bhv2
          refine And.intro ⟨(by omega), (zRb rfl)⟩ ⟨fun h82 => ?_, fun h82 => ?_⟩
          · have t82 : ¬ tFr c (tNq c n p_) b_ := (fun w => by have w2 := w.2; omega)
            have t82b : tNu c n p_ b_ = 1000000 * tVl c (tNs c p_) (tNq c n p_ - tNs c p_) := (tNu_n t51 t82)
            refine And.intro ⟨(by omega), (by omega)⟩ ⟨(fun h161 => False.elim (by omega)), fun h161 => ?_⟩
            refine ⟨_, _, ⟨zW6i (by omega), zW6i (by omega)⟩, fun z178 c178 => ?_⟩
            refine And.intro c178.2.2 ⟨fun h179 => ?_, fun h179 => ?_⟩
            · have t179 : (1 : Int) ≤ 2 := (by decide)
              refine And.intro (zDX hD 0 rfl) (Exists.intro _ (And.intro (zinl_ok (zT20_9 1)) (And.intro rfl ?_)))
              refine And.intro (zDX hD 0 rfl) (zrd (v := (-1)) w23.2 ?_)
              refine And.intro ⟨(zRb rfl), (zRb rfl)⟩ (zbf rfl ?_)
              refine And.intro (zDX hD 0 rfl) ⟨_, (zWi (by omega)), ?_⟩
              refine And.intro (zDX hD 0 rfl) ⟨_, zW6i (by omega), ?_⟩
              refine hQ _ _ _ ?_ ?_ (fun c j h0 => (zxcj h0 ((p23bbfr c j h0).trans rfl))) (fun c j h0 => (zxcj h0 rfl)) (by first | omega | (obtain rfl := hr; have w8 := (tDe_sp (p := tNq c n p_ + 1) (m := 6) hc); have w9 := (tDe_sp (p := tNs c p_) (m := 4) hc); have w7 := tNs_le (c := c) (p := p_); have e1 : tNr c n p_ = tDe c n (tNq c n p_ + 1) 6 := rfl; have e2 : tNq c n p_ = tDe c n (tNs c p_) 4 := rfl; omega))
              · first
                | (rw [tNf_1 (show tBd c (tNs c p_) (tNq c n p_) from w23.1)]
                   exact w23.2)
                | (rw [tNf_2 w23.1 t82 w97.1]
                   exact w97.2)
                | (have m_ := t179
                   rw [tNf_3 w23.1 (fun z => by first | exact t82 z.1 | exact t51 z.1) (by rw [t7b]; (first | rw [t82b] | rw [t51b]); omega)]
                   exact zxe.trans (by omega))
                | (have m_ := t187b
                   rw [tNf_4 w23.1 (fun z => by first | exact t82 z.1 | exact t51 z.1) (by rw [t7b]; (first | rw [t82b] | rw [t51b]); omega)]
                   exact w23.2)
                | (have m_ := t187
                   rw [tNf_3 w23.1 (fun z => by first | exact t82 z.1 | exact t51 z.1) (by rw [t7b]; (first | rw [t82b] | rw [t51b]); omega)]
                   exact zxe.trans (by omega))
              · intro h9
                first
                | (rw [tNf_1 (show tBd c (tNs c p_) (tNq c n p_) from w23.1)] at h9
                   omega)
                | (rw [tNf_2 w23.1 t82 w97.1] at h9
                   omega)
                | (have m_ := t179
                   rw [tNf_3 w23.1 (fun z => by first | exact t82 z.1 | exact t51 z.1) (by rw [t7b]; (first | rw [t82b] | rw [t51b]); omega)] at h9
                   omega)
                | (have m_ := t187b
                   refine ⟨?_, zxe.trans (by rw [t7b]; (first | rw [t82b] | rw [t51b]); omega)⟩
                   rw [tNe_n (by first | exact t82 | exact t51)]
                   exact p23hv)
                | (have m_ := t187
                   rw [tNf_3 w23.1 (fun z => by first | exact t82 z.1 | exact t51 z.1) (by rw [t7b]; (first | rw [t82b] | rw [t51b]); omega)] at h9
                   omega)
            · refine ⟨_, _, ⟨zW6i (by omega), zW6i (by omega)⟩, fun z186 c186 => ?_⟩
              refine And.intro c186.2.2 ⟨fun h187 => ?_, fun h187 => ?_⟩
              · have t187 : (1 : Int) ≤ 2 := (by decide)
                have t187b : (1 : Int) ≤ 2 := (by decide)
                refine And.intro (zDX hD 0 rfl) ⟨_, zW6i (by omega), ?_⟩
                refine hQ _ _ _ ?_ ?_ (fun c j h0 => ((p23bbfr c j h0).trans rfl)) (fun c j h0 => (zxcj h0 rfl)) (by first | omega | (obtain rfl := hr; have w8 := (tDe_sp (p := tNq c n p_ + 1) (m := 6) hc); have w9 := (tDe_sp (p := tNs c p_) (m := 4) hc); have w7 := tNs_le (c := c) (p := p_); have e1 : tNr c n p_ = tDe c n (tNq c n p_ + 1) 6 := rfl; have e2 : tNq c n p_ = tDe c n (tNs c p_) 4 := rfl; omega))
                · first
                  | (rw [tNf_1 (show tBd c (tNs c p_) (tNq c n p_) from w23.1)]
                     exact w23.2)
                  | (rw [tNf_2 w23.1 t82 w97.1]
                     exact w97.2)
                  | (have m_ := t179
                     rw [tNf_3 w23.1 (fun z => by first | exact t82 z.1 | exact t51 z.1) (by rw [t7b]; (first | rw [t82b] | rw [t51b]); omega)]
                     exact zxe.trans (by omega))
                  | (have m_ := t187b
                     rw [tNf_4 w23.1 (fun z => by first | exact t82 z.1 | exact t51 z.1) (by rw [t7b]; (first | rw [t82b] | rw [t51b]); omega)]
                     exact w23.2)
                  | (have m_ := t187
                     rw [tNf_3 w23.1 (fun z => by first | exact t82 z.1 | exact t51 z.1) (by rw [t7b]; (first | rw [t82b] | rw [t51b]); omega)]
                     exact zxe.trans (by omega))
                · intro h9
                  first
                  | (rw [tNf_1 (show tBd c (tNs c p_) (tNq c n p_) from w23.1)] at h9
                     omega)
                  | (rw [tNf_2 w23.1 t82 w97.1] at h9
                     omega)
                  | (have m_ := t179
                     rw [tNf_3 w23.1 (fun z => by first | exact t82 z.1 | exact t51 z.1) (by rw [t7b]; (first | rw [t82b] | rw [t51b]); omega)] at h9
                     omega)
                  | (have m_ := t187b
                     refine ⟨?_, zxe.trans (by rw [t7b]; (first | rw [t82b] | rw [t51b]); omega)⟩
                     rw [tNe_n (by first | exact t82 | exact t51)]
                     exact p23hv)
                  | (have m_ := t187
                     rw [tNf_3 w23.1 (fun z => by first | exact t82 z.1 | exact t51 z.1) (by rw [t7b]; (first | rw [t82b] | rw [t51b]); omega)] at h9
                     omega)
              · have t187 : (1 : Int) ≤ 2 := (by decide)
                refine And.intro (zDX hD 0 rfl) (Exists.intro _ (And.intro (zinl_ok (zT20_9 1)) (And.intro rfl ?_)))
                refine And.intro (zDX hD 0 rfl) (zrd (v := (-1)) w23.2 ?_)
                refine And.intro ⟨(zRb rfl), (zRb rfl)⟩ (zbf rfl ?_)
                refine And.intro (zDX hD 0 rfl) ⟨_, (zWi (by omega)), ?_⟩
                refine And.intro (zDX hD 0 rfl) ⟨_, zW6i (by omega), ?_⟩
                refine hQ _ _ _ ?_ ?_ (fun c j h0 => (zxcj h0 ((p23bbfr c j h0).trans rfl))) (fun c j h0 => (zxcj h0 rfl)) (by first | omega | (obtain rfl := hr; have w8 := (tDe_sp (p := tNq c n p_ + 1) (m := 6) hc); have w9 := (tDe_sp (p := tNs c p_) (m := 4) hc); have w7 := tNs_le (c := c) (p := p_); have e1 : tNr c n p_ = tDe c n (tNq c n p_ + 1) 6 := rfl; have e2 : tNq c n p_ = tDe c n (tNs c p_) 4 := rfl; omega))
                · first
                  | (rw [tNf_1 (show tBd c (tNs c p_) (tNq c n p_) from w23.1)]
                     exact w23.2)
                  | (rw [tNf_2 w23.1 t82 w97.1]
                     exact w97.2)
                  | (have m_ := t179
                     rw [tNf_3 w23.1 (fun z => by first | exact t82 z.1 | exact t51 z.1) (by rw [t7b]; (first | rw [t82b] | rw [t51b]); omega)]
                     exact zxe.trans (by omega))
                  | (have m_ := t187b
                     rw [tNf_4 w23.1 (fun z => by first | exact t82 z.1 | exact t51 z.1) (by rw [t7b]; (first | rw [t82b] | rw [t51b]); omega)]
                     exact w23.2)
                  | (have m_ := t187
                     rw [tNf_3 w23.1 (fun z => by first | exact t82 z.1 | exact t51 z.1) (by rw [t7b]; (first | rw [t82b] | rw [t51b]); omega)]
                     exact zxe.trans (by omega))
                · intro h9
                  first
                  | (rw [tNf_1 (show tBd c (tNs c p_) (tNq c n p_) from w23.1)] at h9
                     omega)
                  | (rw [tNf_2 w23.1 t82 w97.1] at h9
                     omega)
                  | (have m_ := t179
                     rw [tNf_3 w23.1 (fun z => by first | exact t82 z.1 | exact t51 z.1) (by rw [t7b]; (first | rw [t82b] | rw [t51b]); omega)] at h9
                     omega)
                  | (have m_ := t187b
                     refine ⟨?_, zxe.trans (by rw [t7b]; (first | rw [t82b] | rw [t51b]); omega)⟩
                     rw [tNe_n (by first | exact t82 | exact t51)]
                     exact p23hv)
                  | (have m_ := t187
                     rw [tNf_3 w23.1 (fun z => by first | exact t82 z.1 | exact t51 z.1) (by rw [t7b]; (first | rw [t82b] | rw [t51b]); omega)] at h9
                     omega)
          · have t82 : tFr c (tNq c n p_) b_ := ⟨t51, by omega⟩
            refine And.intro (zDX hD 0 rfl) ⟨_, sn_V_dig.up (by decide), ?_⟩
            refine ⟨k, c, n, ((v23o + 1) : Int), (tNq c n p_ + 1), (6 : Int), 6, rfl, hD, (by first | exact (zRM_fr hX (fun c j h => ((p23bbfr c j (by omega)).trans rfl))) | (clear hQ; grind [xu])), (by first | exact hc | (clear hQ; grind [xu])), (by omega), (by omega), (Eq.trans (b := ((-1) : Int)) w23.2 (by omega)), ?_⟩
            intro v92o I92o p92hv p92bhf p92bbfr
            have g92 : v92o = tNr c n p_ := p92hv
            have g92b : tNq c n p_ + 1 ≤ tNr c n p_ ∧ tNr c n p_ ≤ tNq c n p_ + 7 := (by have w := tDe_sp (p := tNq c n p_ + 1) (m := 6) hc; exact ⟨w.1, w.2.1⟩)
            rcases p92bhf with w97 | w97
            · refine And.intro (zDX hD 0 rfl) (zrd (v := (-1)) w97.2 ?_)
              refine And.intro ⟨(zRb rfl), (zRb rfl)⟩ (zbf rfl ?_)
              refine And.intro (zDX hD 0 rfl) ⟨_, sn_V_val.up (by decide), ?_⟩
              refine ⟨k, c, n, ((v23o + 1) : Int), (tNq c n p_ + 1), (v92o : Int), (tNr c n p_), rfl, hD, (by first | exact (zRM_fr hX (fun c j h => ((p92bbfr c j (by omega)).trans ((p23bbfr c j (by omega)).trans rfl)))) | (clear hQ; grind [xu])), (by first | exact hc | (clear hQ; grind [xu])), (by omega), ⟨by omega, by omega, by omega, (tDe_sp hc).2.2.2⟩, (tDe_sp hc).2.2.1, ?_⟩
              intro v112o p112hv p112bhv2
              have g112 : v112o = tVl c (tNq c n p_ + 1) (tNr c n p_ - (tNq c n p_ + 1)) := p112hv
              refine ⟨((7 - ((tNr c n p_ - (tNq c n p_ + 1)) : Nat)), 0, 0), [some (zvr (k)), some (zvi (p_)), none, some (zvl (lo)), none, some (zvl (hi)), none, some (zvi ((p + 1))), some (zvi (v23o)), some (zvl ((1000000 * v41o))), none, some (zvi (v92o)), some (zvl (v112o)), none, some (zvi (((tNr c n p_ - (tNq c n p_ + 1)) : Nat)))], ⟨rfl, (congrArg (fun z => some (zvi z)) (by omega)), rfl, rfl, rfl, rfl, rfl, rfl, rfl, (congrArg (fun z => some (zvi z)) (by omega)), rfl⟩, (tNr c n p_ - (tNq c n p_ + 1)), (p + 1), v23o, v92o, (1000000 * v41o), v112o, rfl, rfl, rfl, rfl, rfl, rfl, (by omega), (by first | exact Or.inl ⟨by omega, by omega⟩ | exact Or.inr ⟨by omega, by omega⟩), (by omega), t51, t82, w23.1, w97.1, (by omega), (by omega), (by rw [Nat.sub_self, ← g112]; show _ = 1 * _; omega), (by omega), w97.2, (fun c j h0 => ((p92bbfr c j h0).trans ((p23bbfr c j h0).trans rfl)))⟩
            · refine And.intro (zDX hD 0 rfl) (zrd (v := (tDe c n (tNq c n p_ + 1) 6)) w97.2 ?_)
              refine And.intro ⟨(by omega), (zRb rfl)⟩ ⟨fun h102 => ?_, (fun h102 => False.elim (by omega))⟩
              refine And.intro ⟨(by omega), (by omega)⟩ ⟨(fun h161 => False.elim (by omega)), fun h161 => ?_⟩
              refine ⟨_, _, ⟨zW6i (by omega), zW6i (by omega)⟩, fun z178 c178 => ?_⟩
              refine And.intro c178.2.2 ⟨fun h179 => ?_, fun h179 => ?_⟩
              · have t179 : (1 : Int) ≤ 2 := (by decide)
                refine And.intro (zDX hD 0 rfl) (Exists.intro _ (And.intro (zinl_ok (zT20_9 1)) (And.intro rfl ?_)))
                refine And.intro (zDX hD 0 rfl) (zrd (v := (tDe c n (tNq c n p_ + 1) 6)) w97.2 ?_)
                refine And.intro ⟨(by omega), (zRb rfl)⟩ ⟨fun h5_192 => ?_, (fun h5_192 => False.elim (by omega))⟩
                refine And.intro (zDX hD 0 rfl) ⟨_, zW6i (by omega), ?_⟩
                refine hQ _ _ _ ?_ ?_ (fun c j h0 => ((p92bbfr c j h0).trans ((p23bbfr c j h0).trans rfl))) (fun c j h0 => (zxcj h0 rfl)) (by first | omega | (obtain rfl := hr; have w8 := (tDe_sp (p := tNq c n p_ + 1) (m := 6) hc); have w9 := (tDe_sp (p := tNs c p_) (m := 4) hc); have w7 := tNs_le (c := c) (p := p_); have e1 : tNr c n p_ = tDe c n (tNq c n p_ + 1) 6 := rfl; have e2 : tNq c n p_ = tDe c n (tNs c p_) 4 := rfl; omega))
                · first
                  | (rw [tNf_1 (show tBd c (tNs c p_) (tNq c n p_) from w23.1)]
                     exact w23.2)
                  | (rw [tNf_2 w23.1 t82 w97.1]
                     exact w97.2)
                  | (have m_ := t179
                     rw [tNf_3 w23.1 (fun z => by first | exact t82 z.1 | exact t51 z.1) (by rw [t7b]; (first | rw [t82b] | rw [t51b]); omega)]
                     exact zxe.trans (by omega))
                  | (have m_ := t187b
                     rw [tNf_4 w23.1 (fun z => by first | exact t82 z.1 | exact t51 z.1) (by rw [t7b]; (first | rw [t82b] | rw [t51b]); omega)]
                     exact w23.2)
                  | (have m_ := t187
                     rw [tNf_3 w23.1 (fun z => by first | exact t82 z.1 | exact t51 z.1) (by rw [t7b]; (first | rw [t82b] | rw [t51b]); omega)]
                     exact zxe.trans (by omega))
                · intro h9
                  first
                  | (rw [tNf_1 (show tBd c (tNs c p_) (tNq c n p_) from w23.1)] at h9
                     omega)
                  | (rw [tNf_2 w23.1 t82 w97.1] at h9
                     omega)
                  | (have m_ := t179
                     rw [tNf_3 w23.1 (fun z => by first | exact t82 z.1 | exact t51 z.1) (by rw [t7b]; (first | rw [t82b] | rw [t51b]); omega)] at h9
                     omega)
                  | (have m_ := t187b
                     refine ⟨?_, zxe.trans (by rw [t7b]; (first | rw [t82b] | rw [t51b]); omega)⟩
                     rw [tNe_n (by first | exact t82 | exact t51)]
                     exact p23hv)
                  | (have m_ := t187
                     rw [tNf_3 w23.1 (fun z => by first | exact t82 z.1 | exact t51 z.1) (by rw [t7b]; (first | rw [t82b] | rw [t51b]); omega)] at h9
                     omega)
              · refine ⟨_, _, ⟨zW6i (by omega), zW6i (by omega)⟩, fun z186 c186 => ?_⟩
                refine And.intro c186.2.2 ⟨fun h187 => ?_, fun h187 => ?_⟩
                · have t187 : (1 : Int) ≤ 2 := (by decide)
                  have t187b : (1 : Int) ≤ 2 := (by decide)
                  refine And.intro (zDX hD 0 rfl) ⟨_, zW6i (by omega), ?_⟩
                  refine hQ _ _ _ ?_ ?_ (fun c j h0 => ((p92bbfr c j h0).trans ((p23bbfr c j h0).trans rfl))) (fun c j h0 => (zxcj h0 rfl)) (by first | omega | (obtain rfl := hr; have w8 := (tDe_sp (p := tNq c n p_ + 1) (m := 6) hc); have w9 := (tDe_sp (p := tNs c p_) (m := 4) hc); have w7 := tNs_le (c := c) (p := p_); have e1 : tNr c n p_ = tDe c n (tNq c n p_ + 1) 6 := rfl; have e2 : tNq c n p_ = tDe c n (tNs c p_) 4 := rfl; omega))
                  · first
                    | (rw [tNf_1 (show tBd c (tNs c p_) (tNq c n p_) from w23.1)]
                       exact w23.2)
                    | (rw [tNf_2 w23.1 t82 w97.1]
                       exact w97.2)
                    | (have m_ := t179
                       rw [tNf_3 w23.1 (fun z => by first | exact t82 z.1 | exact t51 z.1) (by rw [t7b]; (first | rw [t82b] | rw [t51b]); omega)]
                       exact zxe.trans (by omega))
                    | (have m_ := t187b
                       rw [tNf_4 w23.1 (fun z => by first | exact t82 z.1 | exact t51 z.1) (by rw [t7b]; (first | rw [t82b] | rw [t51b]); omega)]
                       exact w23.2)
                    | (have m_ := t187
                       rw [tNf_3 w23.1 (fun z => by first | exact t82 z.1 | exact t51 z.1) (by rw [t7b]; (first | rw [t82b] | rw [t51b]); omega)]
                       exact zxe.trans (by omega))
                  · intro h9
                    first
                    | (rw [tNf_1 (show tBd c (tNs c p_) (tNq c n p_) from w23.1)] at h9
                       omega)
                    | (rw [tNf_2 w23.1 t82 w97.1] at h9
                       omega)
                    | (have m_ := t179
                       rw [tNf_3 w23.1 (fun z => by first | exact t82 z.1 | exact t51 z.1) (by rw [t7b]; (first | rw [t82b] | rw [t51b]); omega)] at h9
                       omega)
                    | (have m_ := t187b
                       refine ⟨?_, zxe.trans (by rw [t7b]; (first | rw [t82b] | rw [t51b]); omega)⟩
                       rw [tNe_n (by first | exact t82 | exact t51)]
                       exact p23hv)
                    | (have m_ := t187
                       rw [tNf_3 w23.1 (fun z => by first | exact t82 z.1 | exact t51 z.1) (by rw [t7b]; (first | rw [t82b] | rw [t51b]); omega)] at h9
                       omega)
                · have t187 : (1 : Int) ≤ 2 := (by decide)
                  refine And.intro (zDX hD 0 rfl) (Exists.intro _ (And.intro (zinl_ok (zT20_9 1)) (And.intro rfl ?_)))
                  refine And.intro (zDX hD 0 rfl) (zrd (v := (tDe c n (tNq c n p_ + 1) 6)) w97.2 ?_)
                  refine And.intro ⟨(by omega), (zRb rfl)⟩ ⟨fun h5_192 => ?_, (fun h5_192 => False.elim (by omega))⟩
                  refine And.intro (zDX hD 0 rfl) ⟨_, zW6i (by omega), ?_⟩
                  refine hQ _ _ _ ?_ ?_ (fun c j h0 => ((p92bbfr c j h0).trans ((p23bbfr c j h0).trans rfl))) (fun c j h0 => (zxcj h0 rfl)) (by first | omega | (obtain rfl := hr; have w8 := (tDe_sp (p := tNq c n p_ + 1) (m := 6) hc); have w9 := (tDe_sp (p := tNs c p_) (m := 4) hc); have w7 := tNs_le (c := c) (p := p_); have e1 : tNr c n p_ = tDe c n (tNq c n p_ + 1) 6 := rfl; have e2 : tNq c n p_ = tDe c n (tNs c p_) 4 := rfl; omega))
                  · first
                    | (rw [tNf_1 (show tBd c (tNs c p_) (tNq c n p_) from w23.1)]
                       exact w23.2)
                    | (rw [tNf_2 w23.1 t82 w97.1]
                       exact w97.2)
                    | (have m_ := t179
                       rw [tNf_3 w23.1 (fun z => by first | exact t82 z.1 | exact t51 z.1) (by rw [t7b]; (first | rw [t82b] | rw [t51b]); omega)]
                       exact zxe.trans (by omega))
                    | (have m_ := t187b
                       rw [tNf_4 w23.1 (fun z => by first | exact t82 z.1 | exact t51 z.1) (by rw [t7b]; (first | rw [t82b] | rw [t51b]); omega)]
                       exact w23.2)
                    | (have m_ := t187
                       rw [tNf_3 w23.1 (fun z => by first | exact t82 z.1 | exact t51 z.1) (by rw [t7b]; (first | rw [t82b] | rw [t51b]); omega)]
                       exact zxe.trans (by omega))
                  · intro h9
                    first
                    | (rw [tNf_1 (show tBd c (tNs c p_) (tNq c n p_) from w23.1)] at h9
                       omega)
                    | (rw [tNf_2 w23.1 t82 w97.1] at h9
                       omega)
                    | (have m_ := t179
                       rw [tNf_3 w23.1 (fun z => by first | exact t82 z.1 | exact t51 z.1) (by rw [t7b]; (first | rw [t82b] | rw [t51b]); omega)] at h9
                       omega)
                    | (have m_ := t187b
                       refine ⟨?_, zxe.trans (by rw [t7b]; (first | rw [t82b] | rw [t51b]); omega)⟩
                       rw [tNe_n (by first | exact t82 | exact t51)]
                       exact p23hv)
                    | (have m_ := t187
                       rw [tNf_3 w23.1 (fun z => by first | exact t82 z.1 | exact t51 z.1) (by rw [t7b]; (first | rw [t82b] | rw [t51b]); omega)] at h9
                       omega)
      · refine And.intro (zDX hD 0 rfl) (zrd (v := (tDe c n (tNs c p_) 4)) w23.2 ?_)
        refine And.intro ⟨(by omega), (zRb rfl)⟩ ⟨fun h33 => ?_, (fun h33 => False.elim (by omega))⟩
        refine And.intro (by omega) ⟨fun h51 => ?_, fun h51 => ?_⟩
        · have t51 : ¬ tFr c (tNq c n p_) b_ := (fun w => by have w1 := w.1; omega)
          have t51b : tNu c n p_ b_ = tVl c (tNs c p_) (tNq c n p_ - tNs c p_) := (tNu_0 (by omega))
          refine And.intro (by omega) ⟨fun h63 => ?_, (fun h63 => False.elim (by omega))⟩
          refine And.intro ⟨(by omega), (by omega)⟩ ⟨(fun h161 => False.elim (by omega)), fun h161 => ?_⟩
          refine ⟨_, _, ⟨zW6i (zRL rfl), zW6i (by omega)⟩, fun z178 c178 => ?_⟩
          refine And.intro c178.2.2 ⟨fun h179 => ?_, fun h179 => ?_⟩
          · have t179 : (1 : Int) ≤ 2 := (by decide)
            refine And.intro (zDX hD 0 rfl) (Exists.intro _ (And.intro (zinl_ok (zT20_9 1)) (And.intro rfl ?_)))
            refine And.intro (zDX hD 0 rfl) (zrd (v := (tDe c n (tNs c p_) 4)) w23.2 ?_)
            refine And.intro ⟨(by omega), (zRb rfl)⟩ ⟨fun h5_192 => ?_, (fun h5_192 => False.elim (by omega))⟩
            refine And.intro (zDX hD 0 rfl) ⟨_, zW6i (zRL rfl), ?_⟩
            refine hQ _ _ _ ?_ ?_ (fun c j h0 => ((p23bbfr c j h0).trans rfl)) (fun c j h0 => (zxcj h0 rfl)) (by first | omega | (obtain rfl := hr; have w8 := (tDe_sp (p := tNq c n p_ + 1) (m := 6) hc); have w9 := (tDe_sp (p := tNs c p_) (m := 4) hc); have w7 := tNs_le (c := c) (p := p_); have e1 : tNr c n p_ = tDe c n (tNq c n p_ + 1) 6 := rfl; have e2 : tNq c n p_ = tDe c n (tNs c p_) 4 := rfl; omega))
            · first
              | (rw [tNf_1 (show tBd c (tNs c p_) (tNq c n p_) from w23.1)]
                 exact w23.2)
              | (rw [tNf_2 w23.1 t82 w97.1]
                 exact w97.2)
              | (have m_ := t179
                 rw [tNf_3 w23.1 (fun z => by first | exact t82 z.1 | exact t51 z.1) (by rw [t7b]; (first | rw [t82b] | rw [t51b]); omega)]
                 exact zxe.trans (by omega))
              | (have m_ := t187b
                 rw [tNf_4 w23.1 (fun z => by first | exact t82 z.1 | exact t51 z.1) (by rw [t7b]; (first | rw [t82b] | rw [t51b]); omega)]
                 exact w23.2)
              | (have m_ := t187
                 rw [tNf_3 w23.1 (fun z => by first | exact t82 z.1 | exact t51 z.1) (by rw [t7b]; (first | rw [t82b] | rw [t51b]); omega)]
                 exact zxe.trans (by omega))
            · intro h9
              first
              | (rw [tNf_1 (show tBd c (tNs c p_) (tNq c n p_) from w23.1)] at h9
                 omega)
              | (rw [tNf_2 w23.1 t82 w97.1] at h9
                 omega)
              | (have m_ := t179
                 rw [tNf_3 w23.1 (fun z => by first | exact t82 z.1 | exact t51 z.1) (by rw [t7b]; (first | rw [t82b] | rw [t51b]); omega)] at h9
                 omega)
              | (have m_ := t187b
                 refine ⟨?_, zxe.trans (by rw [t7b]; (first | rw [t82b] | rw [t51b]); omega)⟩
                 rw [tNe_n (by first | exact t82 | exact t51)]
                 exact p23hv)
              | (have m_ := t187
                 rw [tNf_3 w23.1 (fun z => by first | exact t82 z.1 | exact t51 z.1) (by rw [t7b]; (first | rw [t82b] | rw [t51b]); omega)] at h9
                 omega)
          · refine ⟨_, _, ⟨zW6i (zRL rfl), zW6i (by omega)⟩, fun z186 c186 => ?_⟩
            refine And.intro c186.2.2 ⟨fun h187 => ?_, fun h187 => ?_⟩
            · have t187 : (1 : Int) ≤ 2 := (by decide)
              have t187b : (1 : Int) ≤ 2 := (by decide)
              refine And.intro (zDX hD 0 rfl) ⟨_, zW6i (zRL rfl), ?_⟩
              refine hQ _ _ _ ?_ ?_ (fun c j h0 => ((p23bbfr c j h0).trans rfl)) (fun c j h0 => (zxcj h0 rfl)) (by first | omega | (obtain rfl := hr; have w8 := (tDe_sp (p := tNq c n p_ + 1) (m := 6) hc); have w9 := (tDe_sp (p := tNs c p_) (m := 4) hc); have w7 := tNs_le (c := c) (p := p_); have e1 : tNr c n p_ = tDe c n (tNq c n p_ + 1) 6 := rfl; have e2 : tNq c n p_ = tDe c n (tNs c p_) 4 := rfl; omega))
              · first
                | (rw [tNf_1 (show tBd c (tNs c p_) (tNq c n p_) from w23.1)]
                   exact w23.2)
                | (rw [tNf_2 w23.1 t82 w97.1]
                   exact w97.2)
                | (have m_ := t179
                   rw [tNf_3 w23.1 (fun z => by first | exact t82 z.1 | exact t51 z.1) (by rw [t7b]; (first | rw [t82b] | rw [t51b]); omega)]
                   exact zxe.trans (by omega))
                | (have m_ := t187b
                   rw [tNf_4 w23.1 (fun z => by first | exact t82 z.1 | exact t51 z.1) (by rw [t7b]; (first | rw [t82b] | rw [t51b]); omega)]
                   exact w23.2)
                | (have m_ := t187
                   rw [tNf_3 w23.1 (fun z => by first | exact t82 z.1 | exact t51 z.1) (by rw [t7b]; (first | rw [t82b] | rw [t51b]); omega)]
                   exact zxe.trans (by omega))
              · intro h9
                first
                | (rw [tNf_1 (show tBd c (tNs c p_) (tNq c n p_) from w23.1)] at h9
                   omega)
                | (rw [tNf_2 w23.1 t82 w97.1] at h9
                   omega)
                | (have m_ := t179
                   rw [tNf_3 w23.1 (fun z => by first | exact t82 z.1 | exact t51 z.1) (by rw [t7b]; (first | rw [t82b] | rw [t51b]); omega)] at h9
                   omega)
                | (have m_ := t187b
                   refine ⟨?_, zxe.trans (by rw [t7b]; (first | rw [t82b] | rw [t51b]); omega)⟩
                   rw [tNe_n (by first | exact t82 | exact t51)]
                   exact p23hv)
                | (have m_ := t187
                   rw [tNf_3 w23.1 (fun z => by first | exact t82 z.1 | exact t51 z.1) (by rw [t7b]; (first | rw [t82b] | rw [t51b]); omega)] at h9
                   omega)
            · have t187 : (1 : Int) ≤ 2 := (by decide)
              refine And.intro (zDX hD 0 rfl) (Exists.intro _ (And.intro (zinl_ok (zT20_9 1)) (And.intro rfl ?_)))
              refine And.intro (zDX hD 0 rfl) (zrd (v := (tDe c n (tNs c p_) 4)) w23.2 ?_)
              refine And.intro ⟨(by omega), (zRb rfl)⟩ ⟨fun h5_192 => ?_, (fun h5_192 => False.elim (by omega))⟩
              refine And.intro (zDX hD 0 rfl) ⟨_, zW6i (zRL rfl), ?_⟩
              refine hQ _ _ _ ?_ ?_ (fun c j h0 => ((p23bbfr c j h0).trans rfl)) (fun c j h0 => (zxcj h0 rfl)) (by first | omega | (obtain rfl := hr; have w8 := (tDe_sp (p := tNq c n p_ + 1) (m := 6) hc); have w9 := (tDe_sp (p := tNs c p_) (m := 4) hc); have w7 := tNs_le (c := c) (p := p_); have e1 : tNr c n p_ = tDe c n (tNq c n p_ + 1) 6 := rfl; have e2 : tNq c n p_ = tDe c n (tNs c p_) 4 := rfl; omega))
              · first
                | (rw [tNf_1 (show tBd c (tNs c p_) (tNq c n p_) from w23.1)]
                   exact w23.2)
                | (rw [tNf_2 w23.1 t82 w97.1]
                   exact w97.2)
                | (have m_ := t179
                   rw [tNf_3 w23.1 (fun z => by first | exact t82 z.1 | exact t51 z.1) (by rw [t7b]; (first | rw [t82b] | rw [t51b]); omega)]
                   exact zxe.trans (by omega))
                | (have m_ := t187b
                   rw [tNf_4 w23.1 (fun z => by first | exact t82 z.1 | exact t51 z.1) (by rw [t7b]; (first | rw [t82b] | rw [t51b]); omega)]
                   exact w23.2)
                | (have m_ := t187
                   rw [tNf_3 w23.1 (fun z => by first | exact t82 z.1 | exact t51 z.1) (by rw [t7b]; (first | rw [t82b] | rw [t51b]); omega)]
                   exact zxe.trans (by omega))
              · intro h9
                first
                | (rw [tNf_1 (show tBd c (tNs c p_) (tNq c n p_) from w23.1)] at h9
                   omega)
                | (rw [tNf_2 w23.1 t82 w97.1] at h9
                   omega)
                | (have m_ := t179
                   rw [tNf_3 w23.1 (fun z => by first | exact t82 z.1 | exact t51 z.1) (by rw [t7b]; (first | rw [t82b] | rw [t51b]); omega)] at h9
                   omega)
                | (have m_ := t187b
                   refine ⟨?_, zxe.trans (by rw [t7b]; (first | rw [t82b] | rw [t51b]); omega)⟩
                   rw [tNe_n (by first | exact t82 | exact t51)]
                   exact p23hv)
                | (have m_ := t187
                   rw [tNf_3 w23.1 (fun z => by first | exact t82 z.1 | exact t51 z.1) (by rw [t7b]; (first | rw [t82b] | rw [t51b]); omega)] at h9
                   omega)
        · have t51 : b_ = 1 := (by omega)
          refine And.intro (by omega) ⟨(fun h63 => False.elim (by omega)), fun h63 => ?_⟩
          refine And.intro (zDX hD 0 rfl) (zrd (v := (tDe c n (tNs c p_) 4)) w23.2 ?_)
          refine And.intro ⟨(by omega), (zRb rfl)⟩ ⟨fun h71 => ?_, (fun h71 => False.elim (by omega))⟩
          refine And.intro ⟨(by omega), (by omega)⟩ ⟨(fun h161 => False.elim (by omega)), fun h161 => ?_⟩
          refine ⟨_, _, ⟨zW6i (zRL rfl), zW6i (by omega)⟩, fun z178 c178 => ?_⟩
          refine And.intro c178.2.2 ⟨fun h179 => ?_, fun h179 => ?_⟩
          · have t179 : (1 : Int) ≤ 2 := (by decide)
            refine And.intro (zDX hD 0 rfl) (Exists.intro _ (And.intro (zinl_ok (zT20_9 1)) (And.intro rfl ?_)))
            refine And.intro (zDX hD 0 rfl) (zrd (v := (tDe c n (tNs c p_) 4)) w23.2 ?_)
            refine And.intro ⟨(by omega), (zRb rfl)⟩ ⟨fun h5_192 => ?_, (fun h5_192 => False.elim (by omega))⟩
            refine And.intro (zDX hD 0 rfl) ⟨_, zW6i (zRL rfl), ?_⟩
            refine hQ _ _ _ ?_ ?_ (fun c j h0 => ((p23bbfr c j h0).trans rfl)) (fun c j h0 => (zxcj h0 rfl)) (by first | omega | (obtain rfl := hr; have w8 := (tDe_sp (p := tNq c n p_ + 1) (m := 6) hc); have w9 := (tDe_sp (p := tNs c p_) (m := 4) hc); have w7 := tNs_le (c := c) (p := p_); have e1 : tNr c n p_ = tDe c n (tNq c n p_ + 1) 6 := rfl; have e2 : tNq c n p_ = tDe c n (tNs c p_) 4 := rfl; omega))
            · first
              | (rw [tNf_1 (show tBd c (tNs c p_) (tNq c n p_) from w23.1)]
                 exact w23.2)
              | (rw [tNf_2 w23.1 t82 w97.1]
                 exact w97.2)
              | (have m_ := t179
                 rw [tNf_3 w23.1 (fun z => by first | exact t82 z.1 | exact t51 z.1) (by rw [t7b]; (first | rw [t82b] | rw [t51b]); omega)]
                 exact zxe.trans (by omega))
              | (have m_ := t187b
                 rw [tNf_4 w23.1 (fun z => by first | exact t82 z.1 | exact t51 z.1) (by rw [t7b]; (first | rw [t82b] | rw [t51b]); omega)]
                 exact w23.2)
              | (have m_ := t187
                 rw [tNf_3 w23.1 (fun z => by first | exact t82 z.1 | exact t51 z.1) (by rw [t7b]; (first | rw [t82b] | rw [t51b]); omega)]
                 exact zxe.trans (by omega))
            · intro h9
              first
              | (rw [tNf_1 (show tBd c (tNs c p_) (tNq c n p_) from w23.1)] at h9
                 omega)
              | (rw [tNf_2 w23.1 t82 w97.1] at h9
                 omega)
              | (have m_ := t179
                 rw [tNf_3 w23.1 (fun z => by first | exact t82 z.1 | exact t51 z.1) (by rw [t7b]; (first | rw [t82b] | rw [t51b]); omega)] at h9
                 omega)
              | (have m_ := t187b
                 refine ⟨?_, zxe.trans (by rw [t7b]; (first | rw [t82b] | rw [t51b]); omega)⟩
                 rw [tNe_n (by first | exact t82 | exact t51)]
                 exact p23hv)
              | (have m_ := t187
                 rw [tNf_3 w23.1 (fun z => by first | exact t82 z.1 | exact t51 z.1) (by rw [t7b]; (first | rw [t82b] | rw [t51b]); omega)] at h9
                 omega)
          · refine ⟨_, _, ⟨zW6i (zRL rfl), zW6i (by omega)⟩, fun z186 c186 => ?_⟩
            refine And.intro c186.2.2 ⟨fun h187 => ?_, fun h187 => ?_⟩
            · have t187 : (1 : Int) ≤ 2 := (by decide)
              have t187b : (1 : Int) ≤ 2 := (by decide)
              refine And.intro (zDX hD 0 rfl) ⟨_, zW6i (zRL rfl), ?_⟩
              refine hQ _ _ _ ?_ ?_ (fun c j h0 => ((p23bbfr c j h0).trans rfl)) (fun c j h0 => (zxcj h0 rfl)) (by first | omega | (obtain rfl := hr; have w8 := (tDe_sp (p := tNq c n p_ + 1) (m := 6) hc); have w9 := (tDe_sp (p := tNs c p_) (m := 4) hc); have w7 := tNs_le (c := c) (p := p_); have e1 : tNr c n p_ = tDe c n (tNq c n p_ + 1) 6 := rfl; have e2 : tNq c n p_ = tDe c n (tNs c p_) 4 := rfl; omega))
              · first
                | (rw [tNf_1 (show tBd c (tNs c p_) (tNq c n p_) from w23.1)]
                   exact w23.2)
                | (rw [tNf_2 w23.1 t82 w97.1]
                   exact w97.2)
                | (have m_ := t179
                   rw [tNf_3 w23.1 (fun z => by first | exact t82 z.1 | exact t51 z.1) (by rw [t7b]; (first | rw [t82b] | rw [t51b]); omega)]
                   exact zxe.trans (by omega))
                | (have m_ := t187b
                   rw [tNf_4 w23.1 (fun z => by first | exact t82 z.1 | exact t51 z.1) (by rw [t7b]; (first | rw [t82b] | rw [t51b]); omega)]
                   exact w23.2)
                | (have m_ := t187
                   rw [tNf_3 w23.1 (fun z => by first | exact t82 z.1 | exact t51 z.1) (by rw [t7b]; (first | rw [t82b] | rw [t51b]); omega)]
                   exact zxe.trans (by omega))
              · intro h9
                first
                | (rw [tNf_1 (show tBd c (tNs c p_) (tNq c n p_) from w23.1)] at h9
                   omega)
                | (rw [tNf_2 w23.1 t82 w97.1] at h9
                   omega)
                | (have m_ := t179
                   rw [tNf_3 w23.1 (fun z => by first | exact t82 z.1 | exact t51 z.1) (by rw [t7b]; (first | rw [t82b] | rw [t51b]); omega)] at h9
                   omega)
                | (have m_ := t187b
                   refine ⟨?_, zxe.trans (by rw [t7b]; (first | rw [t82b] | rw [t51b]); omega)⟩
                   rw [tNe_n (by first | exact t82 | exact t51)]
                   exact p23hv)
                | (have m_ := t187
                   rw [tNf_3 w23.1 (fun z => by first | exact t82 z.1 | exact t51 z.1) (by rw [t7b]; (first | rw [t82b] | rw [t51b]); omega)] at h9
                   omega)
            · have t187 : (1 : Int) ≤ 2 := (by decide)
              refine And.intro (zDX hD 0 rfl) (Exists.intro _ (And.intro (zinl_ok (zT20_9 1)) (And.intro rfl ?_)))
              refine And.intro (zDX hD 0 rfl) (zrd (v := (tDe c n (tNs c p_) 4)) w23.2 ?_)
              refine And.intro ⟨(by omega), (zRb rfl)⟩ ⟨fun h5_192 => ?_, (fun h5_192 => False.elim (by omega))⟩
              refine And.intro (zDX hD 0 rfl) ⟨_, zW6i (zRL rfl), ?_⟩
              refine hQ _ _ _ ?_ ?_ (fun c j h0 => ((p23bbfr c j h0).trans rfl)) (fun c j h0 => (zxcj h0 rfl)) (by first | omega | (obtain rfl := hr; have w8 := (tDe_sp (p := tNq c n p_ + 1) (m := 6) hc); have w9 := (tDe_sp (p := tNs c p_) (m := 4) hc); have w7 := tNs_le (c := c) (p := p_); have e1 : tNr c n p_ = tDe c n (tNq c n p_ + 1) 6 := rfl; have e2 : tNq c n p_ = tDe c n (tNs c p_) 4 := rfl; omega))
              · first
                | (rw [tNf_1 (show tBd c (tNs c p_) (tNq c n p_) from w23.1)]
                   exact w23.2)
                | (rw [tNf_2 w23.1 t82 w97.1]
                   exact w97.2)
                | (have m_ := t179
                   rw [tNf_3 w23.1 (fun z => by first | exact t82 z.1 | exact t51 z.1) (by rw [t7b]; (first | rw [t82b] | rw [t51b]); omega)]
                   exact zxe.trans (by omega))
                | (have m_ := t187b
                   rw [tNf_4 w23.1 (fun z => by first | exact t82 z.1 | exact t51 z.1) (by rw [t7b]; (first | rw [t82b] | rw [t51b]); omega)]
                   exact w23.2)
                | (have m_ := t187
                   rw [tNf_3 w23.1 (fun z => by first | exact t82 z.1 | exact t51 z.1) (by rw [t7b]; (first | rw [t82b] | rw [t51b]); omega)]
                   exact zxe.trans (by omega))
              · intro h9
                first
                | (rw [tNf_1 (show tBd c (tNs c p_) (tNq c n p_) from w23.1)] at h9
                   omega)
                | (rw [tNf_2 w23.1 t82 w97.1] at h9
                   omega)
                | (have m_ := t179
                   rw [tNf_3 w23.1 (fun z => by first | exact t82 z.1 | exact t51 z.1) (by rw [t7b]; (first | rw [t82b] | rw [t51b]); omega)] at h9
                   omega)
                | (have m_ := t187b
                   refine ⟨?_, zxe.trans (by rw [t7b]; (first | rw [t82b] | rw [t51b]); omega)⟩
                   rw [tNe_n (by first | exact t82 | exact t51)]
                   exact p23hv)
                | (have m_ := t187
                   rw [tNf_3 w23.1 (fun z => by first | exact t82 z.1 | exact t51 z.1) (by rw [t7b]; (first | rw [t82b] | rw [t51b]); omega)] at h9
                   omega)
  · rintro nM lsM stM I1 L1 R1 S1 hz1 ⟨i, s, q, r, v, x, rfl, rfl, rfl, rfl, rfl, rfl, hii, hsg, hr, hb1, hfr, hb2, hb3, hv, hvb, hx, hxb, hf1, fr⟩
    have xd := tDe_sp (p := tNq c n p_ + 1) (m := 6) hc
    refine And.intro ⟨(by omega), (zRb rfl)⟩ ⟨fun h130 => ?_, fun h130 => ?_⟩
    · refine And.intro ⟨(by omega), (by omega)⟩ ⟨fun h161 => ?_, fun h161 => ?_⟩
      · refine ⟨_, _, ⟨zW6i (by omega), zW6i (by omega)⟩, fun z178 c178 => ?_⟩
        refine And.intro c178.2.2 ⟨fun h179 => ?_, fun h179 => ?_⟩
        · have t179 : (1 : Int) ≤ 2 := (by decide)
          refine And.intro (zDX hD 0 rfl) (Exists.intro _ (And.intro (zinl_ok (zT20_9 1)) (And.intro rfl ?_)))
          refine And.intro (zDX hD 0 rfl) (zrd (v := (-1)) hf1 ?_)
          refine And.intro ⟨(zRb rfl), (zRb rfl)⟩ (zbf rfl ?_)
          refine And.intro (zDX hD 0 rfl) ⟨_, (zWi (by omega)), ?_⟩
          refine And.intro (zDX hD 0 rfl) ⟨_, zW6i (by omega), ?_⟩
          refine hQ _ _ _ ?_ ?_ (fun c j h0 => (zxcj h0 ((fr c j h0).trans rfl))) (fun c j h0 => (zxcj h0 rfl)) (by first | omega | (obtain rfl := hr; have w8 := (tDe_sp (p := tNq c n p_ + 1) (m := 6) hc); have w9 := (tDe_sp (p := tNs c p_) (m := 4) hc); have w7 := tNs_le (c := c) (p := p_); have e1 : tNr c n p_ = tDe c n (tNq c n p_ + 1) 6 := rfl; have e2 : tNq c n p_ = tDe c n (tNs c p_) 4 := rfl; omega))
          · have ev : tNu c n p_ b_ = v + x := by rw [tNu_y hb1 hfr, hv]; obtain rfl : i = 6 := (by omega); rw [hx]
            first
            | (have m_ := t179
               rw [tNf_3 hb2 (fun z => hb3 z.2) (by first | (rw [tNv_y (by omega), ev] <;> omega) | (rw [tNv_n (by omega), ev] <;> omega))]
               exact zxe.trans (by omega))
            | (have m_ := t187b
               rw [tNf_4 hb2 (fun z => hb3 z.2) (by first | (rw [tNv_y (by omega), ev] <;> omega) | (rw [tNv_n (by omega), ev] <;> omega))]
               exact hf1)
            | (have m_ := t187
               rw [tNf_3 hb2 (fun z => hb3 z.2) (by first | (rw [tNv_y (by omega), ev] <;> omega) | (rw [tNv_n (by omega), ev] <;> omega))]
               exact zxe.trans (by omega))
          · have ev : tNu c n p_ b_ = v + x := by rw [tNu_y hb1 hfr, hv]; obtain rfl : i = 6 := (by omega); rw [hx]
            intro h9
            first
            | (have m_ := t179
               rw [tNf_3 hb2 (fun z => hb3 z.2) (by first | (rw [tNv_y (by omega), ev] <;> omega) | (rw [tNv_n (by omega), ev] <;> omega))] at h9
               omega)
            | (have m_ := t187b
               refine ⟨?_, zxe.trans (by first | (rw [tNv_y (by omega), ev] <;> omega) | (rw [tNv_n (by omega), ev] <;> omega))⟩
               rw [tNe_y hfr]
               exact hr)
            | (have m_ := t187
               rw [tNf_3 hb2 (fun z => hb3 z.2) (by first | (rw [tNv_y (by omega), ev] <;> omega) | (rw [tNv_n (by omega), ev] <;> omega))] at h9
               omega)
        · refine ⟨_, _, ⟨zW6i (by omega), zW6i (by omega)⟩, fun z186 c186 => ?_⟩
          refine And.intro c186.2.2 ⟨fun h187 => ?_, fun h187 => ?_⟩
          · have t187 : (1 : Int) ≤ 2 := (by decide)
            have t187b : (1 : Int) ≤ 2 := (by decide)
            refine And.intro (zDX hD 0 rfl) ⟨_, zW6i (by omega), ?_⟩
            refine hQ _ _ _ ?_ ?_ (fun c j h0 => ((fr c j h0).trans rfl)) (fun c j h0 => (zxcj h0 rfl)) (by first | omega | (obtain rfl := hr; have w8 := (tDe_sp (p := tNq c n p_ + 1) (m := 6) hc); have w9 := (tDe_sp (p := tNs c p_) (m := 4) hc); have w7 := tNs_le (c := c) (p := p_); have e1 : tNr c n p_ = tDe c n (tNq c n p_ + 1) 6 := rfl; have e2 : tNq c n p_ = tDe c n (tNs c p_) 4 := rfl; omega))
            · have ev : tNu c n p_ b_ = v + x := by rw [tNu_y hb1 hfr, hv]; obtain rfl : i = 6 := (by omega); rw [hx]
              first
              | (have m_ := t179
                 rw [tNf_3 hb2 (fun z => hb3 z.2) (by first | (rw [tNv_y (by omega), ev] <;> omega) | (rw [tNv_n (by omega), ev] <;> omega))]
                 exact zxe.trans (by omega))
              | (have m_ := t187b
                 rw [tNf_4 hb2 (fun z => hb3 z.2) (by first | (rw [tNv_y (by omega), ev] <;> omega) | (rw [tNv_n (by omega), ev] <;> omega))]
                 exact hf1)
              | (have m_ := t187
                 rw [tNf_3 hb2 (fun z => hb3 z.2) (by first | (rw [tNv_y (by omega), ev] <;> omega) | (rw [tNv_n (by omega), ev] <;> omega))]
                 exact zxe.trans (by omega))
            · have ev : tNu c n p_ b_ = v + x := by rw [tNu_y hb1 hfr, hv]; obtain rfl : i = 6 := (by omega); rw [hx]
              intro h9
              first
              | (have m_ := t179
                 rw [tNf_3 hb2 (fun z => hb3 z.2) (by first | (rw [tNv_y (by omega), ev] <;> omega) | (rw [tNv_n (by omega), ev] <;> omega))] at h9
                 omega)
              | (have m_ := t187b
                 refine ⟨?_, zxe.trans (by first | (rw [tNv_y (by omega), ev] <;> omega) | (rw [tNv_n (by omega), ev] <;> omega))⟩
                 rw [tNe_y hfr]
                 exact hr)
              | (have m_ := t187
                 rw [tNf_3 hb2 (fun z => hb3 z.2) (by first | (rw [tNv_y (by omega), ev] <;> omega) | (rw [tNv_n (by omega), ev] <;> omega))] at h9
                 omega)
          · have t187 : (1 : Int) ≤ 2 := (by decide)
            refine And.intro (zDX hD 0 rfl) (Exists.intro _ (And.intro (zinl_ok (zT20_9 1)) (And.intro rfl ?_)))
            refine And.intro (zDX hD 0 rfl) (zrd (v := (-1)) hf1 ?_)
            refine And.intro ⟨(zRb rfl), (zRb rfl)⟩ (zbf rfl ?_)
            refine And.intro (zDX hD 0 rfl) ⟨_, (zWi (by omega)), ?_⟩
            refine And.intro (zDX hD 0 rfl) ⟨_, zW6i (by omega), ?_⟩
            refine hQ _ _ _ ?_ ?_ (fun c j h0 => (zxcj h0 ((fr c j h0).trans rfl))) (fun c j h0 => (zxcj h0 rfl)) (by first | omega | (obtain rfl := hr; have w8 := (tDe_sp (p := tNq c n p_ + 1) (m := 6) hc); have w9 := (tDe_sp (p := tNs c p_) (m := 4) hc); have w7 := tNs_le (c := c) (p := p_); have e1 : tNr c n p_ = tDe c n (tNq c n p_ + 1) 6 := rfl; have e2 : tNq c n p_ = tDe c n (tNs c p_) 4 := rfl; omega))
            · have ev : tNu c n p_ b_ = v + x := by rw [tNu_y hb1 hfr, hv]; obtain rfl : i = 6 := (by omega); rw [hx]
              first
              | (have m_ := t179
                 rw [tNf_3 hb2 (fun z => hb3 z.2) (by first | (rw [tNv_y (by omega), ev] <;> omega) | (rw [tNv_n (by omega), ev] <;> omega))]
                 exact zxe.trans (by omega))
              | (have m_ := t187b
                 rw [tNf_4 hb2 (fun z => hb3 z.2) (by first | (rw [tNv_y (by omega), ev] <;> omega) | (rw [tNv_n (by omega), ev] <;> omega))]
                 exact hf1)
              | (have m_ := t187
                 rw [tNf_3 hb2 (fun z => hb3 z.2) (by first | (rw [tNv_y (by omega), ev] <;> omega) | (rw [tNv_n (by omega), ev] <;> omega))]
                 exact zxe.trans (by omega))
            · have ev : tNu c n p_ b_ = v + x := by rw [tNu_y hb1 hfr, hv]; obtain rfl : i = 6 := (by omega); rw [hx]
              intro h9
              first
              | (have m_ := t179
                 rw [tNf_3 hb2 (fun z => hb3 z.2) (by first | (rw [tNv_y (by omega), ev] <;> omega) | (rw [tNv_n (by omega), ev] <;> omega))] at h9
                 omega)
              | (have m_ := t187b
                 refine ⟨?_, zxe.trans (by first | (rw [tNv_y (by omega), ev] <;> omega) | (rw [tNv_n (by omega), ev] <;> omega))⟩
                 rw [tNe_y hfr]
                 exact hr)
              | (have m_ := t187
                 rw [tNf_3 hb2 (fun z => hb3 z.2) (by first | (rw [tNv_y (by omega), ev] <;> omega) | (rw [tNv_n (by omega), ev] <;> omega))] at h9
                 omega)
      · refine ⟨_, _, ⟨zW6i (by omega), zW6i (by omega)⟩, fun z178 c178 => ?_⟩
        refine And.intro c178.2.2 ⟨fun h179 => ?_, fun h179 => ?_⟩
        · have t179 : (1 : Int) ≤ 2 := (by decide)
          refine And.intro (zDX hD 0 rfl) (Exists.intro _ (And.intro (zinl_ok (zT20_9 1)) (And.intro rfl ?_)))
          refine And.intro (zDX hD 0 rfl) (zrd (v := (-1)) hf1 ?_)
          refine And.intro ⟨(zRb rfl), (zRb rfl)⟩ (zbf rfl ?_)
          refine And.intro (zDX hD 0 rfl) ⟨_, (zWi (by omega)), ?_⟩
          refine And.intro (zDX hD 0 rfl) ⟨_, zW6i (by omega), ?_⟩
          refine hQ _ _ _ ?_ ?_ (fun c j h0 => (zxcj h0 ((fr c j h0).trans rfl))) (fun c j h0 => (zxcj h0 rfl)) (by first | omega | (obtain rfl := hr; have w8 := (tDe_sp (p := tNq c n p_ + 1) (m := 6) hc); have w9 := (tDe_sp (p := tNs c p_) (m := 4) hc); have w7 := tNs_le (c := c) (p := p_); have e1 : tNr c n p_ = tDe c n (tNq c n p_ + 1) 6 := rfl; have e2 : tNq c n p_ = tDe c n (tNs c p_) 4 := rfl; omega))
          · have ev : tNu c n p_ b_ = v + x := by rw [tNu_y hb1 hfr, hv]; obtain rfl : i = 6 := (by omega); rw [hx]
            first
            | (have m_ := t179
               rw [tNf_3 hb2 (fun z => hb3 z.2) (by first | (rw [tNv_y (by omega), ev] <;> omega) | (rw [tNv_n (by omega), ev] <;> omega))]
               exact zxe.trans (by omega))
            | (have m_ := t187b
               rw [tNf_4 hb2 (fun z => hb3 z.2) (by first | (rw [tNv_y (by omega), ev] <;> omega) | (rw [tNv_n (by omega), ev] <;> omega))]
               exact hf1)
            | (have m_ := t187
               rw [tNf_3 hb2 (fun z => hb3 z.2) (by first | (rw [tNv_y (by omega), ev] <;> omega) | (rw [tNv_n (by omega), ev] <;> omega))]
               exact zxe.trans (by omega))
          · have ev : tNu c n p_ b_ = v + x := by rw [tNu_y hb1 hfr, hv]; obtain rfl : i = 6 := (by omega); rw [hx]
            intro h9
            first
            | (have m_ := t179
               rw [tNf_3 hb2 (fun z => hb3 z.2) (by first | (rw [tNv_y (by omega), ev] <;> omega) | (rw [tNv_n (by omega), ev] <;> omega))] at h9
               omega)
            | (have m_ := t187b
               refine ⟨?_, zxe.trans (by first | (rw [tNv_y (by omega), ev] <;> omega) | (rw [tNv_n (by omega), ev] <;> omega))⟩
               rw [tNe_y hfr]
               exact hr)
            | (have m_ := t187
               rw [tNf_3 hb2 (fun z => hb3 z.2) (by first | (rw [tNv_y (by omega), ev] <;> omega) | (rw [tNv_n (by omega), ev] <;> omega))] at h9
               omega)
        · refine ⟨_, _, ⟨zW6i (by omega), zW6i (by omega)⟩, fun z186 c186 => ?_⟩
          refine And.intro c186.2.2 ⟨fun h187 => ?_, fun h187 => ?_⟩
          · have t187 : (1 : Int) ≤ 2 := (by decide)
            have t187b : (1 : Int) ≤ 2 := (by decide)
            refine And.intro (zDX hD 0 rfl) ⟨_, zW6i (by omega), ?_⟩
            refine hQ _ _ _ ?_ ?_ (fun c j h0 => ((fr c j h0).trans rfl)) (fun c j h0 => (zxcj h0 rfl)) (by first | omega | (obtain rfl := hr; have w8 := (tDe_sp (p := tNq c n p_ + 1) (m := 6) hc); have w9 := (tDe_sp (p := tNs c p_) (m := 4) hc); have w7 := tNs_le (c := c) (p := p_); have e1 : tNr c n p_ = tDe c n (tNq c n p_ + 1) 6 := rfl; have e2 : tNq c n p_ = tDe c n (tNs c p_) 4 := rfl; omega))
            · have ev : tNu c n p_ b_ = v + x := by rw [tNu_y hb1 hfr, hv]; obtain rfl : i = 6 := (by omega); rw [hx]
              first
              | (have m_ := t179
                 rw [tNf_3 hb2 (fun z => hb3 z.2) (by first | (rw [tNv_y (by omega), ev] <;> omega) | (rw [tNv_n (by omega), ev] <;> omega))]
                 exact zxe.trans (by omega))
              | (have m_ := t187b
                 rw [tNf_4 hb2 (fun z => hb3 z.2) (by first | (rw [tNv_y (by omega), ev] <;> omega) | (rw [tNv_n (by omega), ev] <;> omega))]
                 exact hf1)
              | (have m_ := t187
                 rw [tNf_3 hb2 (fun z => hb3 z.2) (by first | (rw [tNv_y (by omega), ev] <;> omega) | (rw [tNv_n (by omega), ev] <;> omega))]
                 exact zxe.trans (by omega))
            · have ev : tNu c n p_ b_ = v + x := by rw [tNu_y hb1 hfr, hv]; obtain rfl : i = 6 := (by omega); rw [hx]
              intro h9
              first
              | (have m_ := t179
                 rw [tNf_3 hb2 (fun z => hb3 z.2) (by first | (rw [tNv_y (by omega), ev] <;> omega) | (rw [tNv_n (by omega), ev] <;> omega))] at h9
                 omega)
              | (have m_ := t187b
                 refine ⟨?_, zxe.trans (by first | (rw [tNv_y (by omega), ev] <;> omega) | (rw [tNv_n (by omega), ev] <;> omega))⟩
                 rw [tNe_y hfr]
                 exact hr)
              | (have m_ := t187
                 rw [tNf_3 hb2 (fun z => hb3 z.2) (by first | (rw [tNv_y (by omega), ev] <;> omega) | (rw [tNv_n (by omega), ev] <;> omega))] at h9
                 omega)
          · have t187 : (1 : Int) ≤ 2 := (by decide)
            refine And.intro (zDX hD 0 rfl) (Exists.intro _ (And.intro (zinl_ok (zT20_9 1)) (And.intro rfl ?_)))
            refine And.intro (zDX hD 0 rfl) (zrd (v := (-1)) hf1 ?_)
            refine And.intro ⟨(zRb rfl), (zRb rfl)⟩ (zbf rfl ?_)
            refine And.intro (zDX hD 0 rfl) ⟨_, (zWi (by omega)), ?_⟩
            refine And.intro (zDX hD 0 rfl) ⟨_, zW6i (by omega), ?_⟩
            refine hQ _ _ _ ?_ ?_ (fun c j h0 => (zxcj h0 ((fr c j h0).trans rfl))) (fun c j h0 => (zxcj h0 rfl)) (by first | omega | (obtain rfl := hr; have w8 := (tDe_sp (p := tNq c n p_ + 1) (m := 6) hc); have w9 := (tDe_sp (p := tNs c p_) (m := 4) hc); have w7 := tNs_le (c := c) (p := p_); have e1 : tNr c n p_ = tDe c n (tNq c n p_ + 1) 6 := rfl; have e2 : tNq c n p_ = tDe c n (tNs c p_) 4 := rfl; omega))
            · have ev : tNu c n p_ b_ = v + x := by rw [tNu_y hb1 hfr, hv]; obtain rfl : i = 6 := (by omega); rw [hx]
              first
              | (have m_ := t179
                 rw [tNf_3 hb2 (fun z => hb3 z.2) (by first | (rw [tNv_y (by omega), ev] <;> omega) | (rw [tNv_n (by omega), ev] <;> omega))]
                 exact zxe.trans (by omega))
              | (have m_ := t187b
                 rw [tNf_4 hb2 (fun z => hb3 z.2) (by first | (rw [tNv_y (by omega), ev] <;> omega) | (rw [tNv_n (by omega), ev] <;> omega))]
                 exact hf1)
              | (have m_ := t187
                 rw [tNf_3 hb2 (fun z => hb3 z.2) (by first | (rw [tNv_y (by omega), ev] <;> omega) | (rw [tNv_n (by omega), ev] <;> omega))]
                 exact zxe.trans (by omega))
            · have ev : tNu c n p_ b_ = v + x := by rw [tNu_y hb1 hfr, hv]; obtain rfl : i = 6 := (by omega); rw [hx]
              intro h9
              first
              | (have m_ := t179
                 rw [tNf_3 hb2 (fun z => hb3 z.2) (by first | (rw [tNv_y (by omega), ev] <;> omega) | (rw [tNv_n (by omega), ev] <;> omega))] at h9
                 omega)
              | (have m_ := t187b
                 refine ⟨?_, zxe.trans (by first | (rw [tNv_y (by omega), ev] <;> omega) | (rw [tNv_n (by omega), ev] <;> omega))⟩
                 rw [tNe_y hfr]
                 exact hr)
              | (have m_ := t187
                 rw [tNf_3 hb2 (fun z => hb3 z.2) (by first | (rw [tNv_y (by omega), ev] <;> omega) | (rw [tNv_n (by omega), ev] <;> omega))] at h9
                 omega)
    · refine ⟨((7 - (i + 1)), 0, 0), zlt6 (by omega), [some (zvr (k)), some (zvi (p_)), none, some (zvl (lo)), none, some (zvl (hi)), none, some (zvi (s)), some (zvi (q)), some (zvl (v)), none, some (zvi (r)), some (zvl ((10 * x))), none, some (zvi ((i + 1)))], ⟨rfl, rfl, rfl, rfl, rfl, rfl, rfl, rfl, rfl, rfl, rfl⟩, (i + 1), s, q, r, v, (10 * x), rfl, rfl, rfl, rfl, rfl, rfl, (by omega), hsg, (by omega), (by omega), hfr, hb2, hb3, hv, (by omega), (by rw [show i + 1 - (tNr c n p_ - (tNq c n p_ + 1)) = (i - (tNr c n p_ - (tNq c n p_ + 1))) + 1 by omega, hx]; show _ = 10 * tTn (i - (tNr c n p_ - (tNq c n p_ + 1))) * _; rw [Int.mul_assoc]), ?_, hf1, (fun c j h0 => ((fr c j h0).trans rfl))⟩
      · have xv := tVl_b (c := c) (p := tNq c n p_ + 1) (n := (tNr c n p_ - (tNq c n p_ + 1))) (fun j h1 h2 => xd.2.2.1 j h1 (by show j < tNr c n p_; omega)) (Nat.le_refl _)
        have xm := tTn_mm (k := (tNr c n p_ - (tNq c n p_ + 1))) (j := i + 1 - (tNr c n p_ - (tNq c n p_ + 1))) (by omega) xv.1 xv.2
        rw [show i + 1 - (tNr c n p_ - (tNq c n p_ + 1)) = (i - (tNr c n p_ - (tNq c n p_ + 1))) + 1 by omega] at xm
        have e : tTn ((i - (tNr c n p_ - (tNq c n p_ + 1))) + 1) = 10 * tTn (i - (tNr c n p_ - (tNq c n p_ + 1))) := rfl
        rw [e, Int.mul_assoc, ← hx] at xm
        exact xm)
def T_V_rv2 : ZT := fun args I L R S Q => ∃ (k : Nat) (c : Nat → Int) (n : Nat) (a : Int) (a_ : Nat) (i : Int) (i_ : Nat) (p : Int) (p_ : Nat) (mk : Int) (fd : Nat) (wd : Nat) (nd : Nat), args = [zvr k, zvi a, zvi i, zvi p] ∧ (zDy zT20 zF20 k R S) ∧ (zRM k c n I) ∧ (tOk c n) ∧ (a = a_ ∧ 1 ≤ a_ ∧ a_ ≤ 8) ∧ (i = i_ ∧ i_ < tFn a_) ∧ (p = p_ ∧ p_ ≤ 5000) ∧ (I k 15 = mk) ∧ (0 ≤ mk ∧ mk ≤ 1) ∧ (I k 17 = fd) ∧ (fd ≤ 199) ∧ (I k 21 = wd) ∧ (wd ≤ 1) ∧ (I k 20 = nd) ∧ (nd ≤ 4) ∧ (I k 18 = -1) ∧ ∀ (v : Int) (I' : ZI) (L' : ZI), (tFc a_ i_ = 84 → I' k 18 = tXf c p_ ∧ I' k 20 = nd ∧ (tXf c p_ = -1 → v = tXe c p_ ∧ I' k 21 = wd + 1 ∧ (mk = 1 → I' (k + 5) (2 * fd + wd) = tXl c p_ ∧ ∀ i, i < tXl c p_ → I' (k + 6) (80 * fd + 40 * wd + i) = tLt c p_ i))) → (tFc a_ i_ ≠ 84 → I' k 18 = tNf c n p_ (tLen (tFc a_ i_)) (tLo (tFc a_ i_)) (tHi (tFc a_ i_)) ∧ I' k 21 = wd ∧ (tNf c n p_ (tLen (tFc a_ i_)) (tLo (tFc a_ i_)) (tHi (tFc a_ i_)) = -1 → v = tNe c n p_ (tLen (tFc a_ i_)) ∧ I' k 20 = nd + 1 ∧ (mk = 1 → L' (k + 4) (5 * fd + nd) = tNv c n p_ (tLen (tFc a_ i_))))) → (∀ c j : Nat, ¬ (c = k ∧ j = 18) → ¬ (c = k ∧ j = 20) → ¬ (c = k ∧ j = 21) → ¬ (c = k + 5 ∧ (mk = 1 ∧ tFc a_ i_ = 84 ∧ j = 2 * fd + wd)) → ¬ (c = k + 6 ∧ (mk = 1 ∧ 80 * fd + 40 * wd ≤ j ∧ j < 80 * fd + 40 * wd + 40)) → I' c j = I c j) → (∀ c j : Nat, ¬ (c = k ∧ j = 28) → ¬ (c = k + 4 ∧ (mk = 1 ∧ tFc a_ i_ ≠ 84 ∧ j = 5 * fd + nd)) → L' c j = L c j) → (0 ≤ v ∧ v ≤ 5100) → Q (some (zvi (v))) I' L' R S
theorem sn_V_rv2 : ZSnd 4 20 39 T_V_rv2 := ZSnd.of (zT20_39 3) (by
  rintro args I L R S Q hz ⟨k, c, n, a, a_, i, i_, p, p_, mk, fd, wd, nd, rfl, hD, hX, hc, ha, hi, hp, hmk, hmk2, hfd, hfd2, hwd, hwd2, hnd, hnd2, hf0, hQ⟩
  obtain ⟨x1, x2⟩ := id hX
  have hn4 := hc.1
  have hk40 := hD.1
  have hfn := (tFn_b a_ (by omega)).1
  have hfo := tFc_o a_ (by omega) (by omega) i_ hi.2
  have hln : (tFc a_ i_ = 78 → tLen (tFc a_ i_) = 1) ∧ (tFc a_ i_ ≠ 78 → tLen (tFc a_ i_) = 0) := ⟨fun w => if_pos w, fun w => if_neg w⟩
  refine And.intro rfl ?_
  refine ⟨_, sn_V_fld.up (by decide), ?_⟩
  refine ⟨(a : Int), a_, (i : Int), i_, rfl, (by omega), (by omega), ?_⟩
  intro v2o p2hv p2bhv2
  refine And.intro ⟨(by omega), (zRb rfl)⟩ ⟨fun h10 => ?_, fun h10 => ?_⟩
  · refine And.intro ⟨(by omega), (zRb rfl)⟩ ⟨fun h38 => ?_, fun h38 => ?_⟩
    · refine ⟨_, sn_V_lst.up (by decide), ?_⟩
      refine ⟨(a : Int), a_, (i : Int), i_, rfl, (by omega), (by omega), (fun w => by omega), ?_⟩
      intro v48o p48hv p48bhv2
      refine ⟨_, sn_V_mst.up (by decide), ?_⟩
      refine ⟨(a : Int), a_, (i : Int), i_, rfl, (by omega), (by omega), (fun w => by omega), ?_⟩
      intro v53o p53hv p53bhv2
      refine And.intro (zDX hD 0 rfl) ⟨_, sn_V_num92.up (by decide), ?_⟩
      refine ⟨k, c, n, (p : Int), p_, (0 : Int), (tLen (tFc a_ i_)), (v48o : Int), (v53o : Int), rfl, hD, (by first | exact (zRM_fr hX (fun c j h => rfl)) | (clear hQ; grind [xu])), (by first | exact hc | (clear hQ; grind [xu])), (by omega), (by omega), (by clear hQ; grind [xu]), (Eq.trans (b := ((-1) : Int)) hf0 (by omega)), ?_⟩
      intro v56o I56o L56o p56hf p56bhok p56bbfr p56bbbfrL p56bbbbhvb9
      refine And.intro (zDX hD 0 rfl) (zrd (v := mk) ((p56bbfr k 15 (by omega)).trans hmk) ?_)
      refine And.intro (by omega) ⟨fun h65 => ?_, fun h65 => ?_⟩
      · refine And.intro (zDX hD 0 rfl) (zrd (v := nd) ((p56bbfr k 20 (by omega)).trans hnd) ?_)
        refine And.intro (zDX hD 0 rfl) ⟨_, (zWi (by omega)), ?_⟩
        refine hQ _ _ _ ?_ ?_ (fun c j h0 h1 h2 h3 h4 => (zxcj h1 ((p56bbfr c j h0).trans rfl))) (fun c j h0 h1 => ((p56bbbfrL c j h0).trans rfl)) (by omega)
        · intro h8
          first
          | (exfalso; omega)
          | exact ⟨(zxs (by omega) rfl).trans p15hf, (zxcj (by omega) ((p56bbfr k _ (by omega)).trans rfl)).trans hnd, fun h9 => ⟨p15bhv h9, zxe.trans (by omega), fun hm => ⟨(zxu (by omega) rfl).trans (p15bbbhok hm h9).1, fun i hi => (zxu (by omega) rfl).trans ((p15bbbhok hm h9).2 i hi)⟩⟩⟩
        · intro h8
          first
          | (exfalso; omega)
          | (rw [← p48hv, ← p53hv]
             refine ⟨(zxs (by omega) rfl).trans p56hf, (zxcj (by omega) ((p56bbfr k _ (by omega)).trans rfl)).trans hwd, fun h9 => ⟨(p56bhok h9).1, zxe.trans (by omega), fun hm => ?_⟩⟩
             first
             | (exfalso; omega)
             | (have e9 := (p56bhok h9).2
                exact (zxe' (by omega)).trans (by omega)))
      · refine And.intro (zDX hD 0 rfl) (zrdR (v := some (k + 4)) (zDR hD 3 rfl) ?_)
        refine And.intro (zDX hD 0 rfl) (zrd (v := fd) ((p56bbfr k 17 (by omega)).trans hfd) ?_)
        refine And.intro (zDX hD 0 rfl) (zrd (v := nd) ((p56bbfr k 20 (by omega)).trans hnd) ?_)
        refine And.intro (zDX hD 0 rfl) (fun v84 e84 r84 => ?_)
        refine And.intro ⟨(by show 40 ≤ _; omega), (zDP hD 4 rfl rfl (by omega) (by omega))⟩ ⟨_, zW6i r84, ?_⟩
        refine And.intro (zDX hD 0 rfl) (zrd (v := nd) ((p56bbfr k 20 (by omega)).trans hnd) ?_)
        refine And.intro (zDX hD 0 rfl) ⟨_, (zWi (by omega)), ?_⟩
        refine hQ _ _ _ ?_ ?_ (fun c j h0 h1 h2 h3 h4 => (zxcj h1 ((p56bbfr c j h0).trans rfl))) (fun c j h0 h1 => (zxcj (by omega) ((p56bbbfrL c j h0).trans rfl))) (by omega)
        · intro h8
          first
          | (exfalso; omega)
          | exact ⟨(zxs (by omega) rfl).trans p15hf, (zxcj (by omega) ((p56bbfr k _ (by omega)).trans rfl)).trans hnd, fun h9 => ⟨p15bhv h9, zxe.trans (by omega), fun hm => ⟨(zxu (by omega) rfl).trans (p15bbbhok hm h9).1, fun i hi => (zxu (by omega) rfl).trans ((p15bbbhok hm h9).2 i hi)⟩⟩⟩
        · intro h8
          first
          | (exfalso; omega)
          | (rw [← p48hv, ← p53hv]
             refine ⟨(zxs (by omega) rfl).trans p56hf, (zxcj (by omega) ((p56bbfr k _ (by omega)).trans rfl)).trans hwd, fun h9 => ⟨(p56bhok h9).1, zxe.trans (by omega), fun hm => ?_⟩⟩
             first
             | (exfalso; omega)
             | (have e9 := (p56bhok h9).2
                exact (zxe' (by omega)).trans (by omega)))
    · refine ⟨_, sn_V_lst.up (by decide), ?_⟩
      refine ⟨(a : Int), a_, (i : Int), i_, rfl, (by omega), (by omega), (fun w => by omega), ?_⟩
      intro v48o p48hv p48bhv2
      refine ⟨_, sn_V_mst.up (by decide), ?_⟩
      refine ⟨(a : Int), a_, (i : Int), i_, rfl, (by omega), (by omega), (fun w => by omega), ?_⟩
      intro v53o p53hv p53bhv2
      refine And.intro (zDX hD 0 rfl) ⟨_, sn_V_num92.up (by decide), ?_⟩
      refine ⟨k, c, n, (p : Int), p_, (1 : Int), (tLen (tFc a_ i_)), (v48o : Int), (v53o : Int), rfl, hD, (by first | exact (zRM_fr hX (fun c j h => rfl)) | (clear hQ; grind [xu])), (by first | exact hc | (clear hQ; grind [xu])), (by omega), (by omega), (by clear hQ; grind [xu]), (Eq.trans (b := ((-1) : Int)) hf0 (by omega)), ?_⟩
      intro v56o I56o L56o p56hf p56bhok p56bbfr p56bbbfrL p56bbbbhvb9
      refine And.intro (zDX hD 0 rfl) (zrd (v := mk) ((p56bbfr k 15 (by omega)).trans hmk) ?_)
      refine And.intro (by omega) ⟨fun h65 => ?_, fun h65 => ?_⟩
      · refine And.intro (zDX hD 0 rfl) (zrd (v := nd) ((p56bbfr k 20 (by omega)).trans hnd) ?_)
        refine And.intro (zDX hD 0 rfl) ⟨_, (zWi (by omega)), ?_⟩
        refine hQ _ _ _ ?_ ?_ (fun c j h0 h1 h2 h3 h4 => (zxcj h1 ((p56bbfr c j h0).trans rfl))) (fun c j h0 h1 => ((p56bbbfrL c j h0).trans rfl)) (by omega)
        · intro h8
          first
          | (exfalso; omega)
          | exact ⟨(zxs (by omega) rfl).trans p15hf, (zxcj (by omega) ((p56bbfr k _ (by omega)).trans rfl)).trans hnd, fun h9 => ⟨p15bhv h9, zxe.trans (by omega), fun hm => ⟨(zxu (by omega) rfl).trans (p15bbbhok hm h9).1, fun i hi => (zxu (by omega) rfl).trans ((p15bbbhok hm h9).2 i hi)⟩⟩⟩
        · intro h8
          first
          | (exfalso; omega)
          | (rw [← p48hv, ← p53hv]
             refine ⟨(zxs (by omega) rfl).trans p56hf, (zxcj (by omega) ((p56bbfr k _ (by omega)).trans rfl)).trans hwd, fun h9 => ⟨(p56bhok h9).1, zxe.trans (by omega), fun hm => ?_⟩⟩
             first
             | (exfalso; omega)
             | (have e9 := (p56bhok h9).2
                exact (zxe' (by omega)).trans (by omega)))
      · refine And.intro (zDX hD 0 rfl) (zrdR (v := some (k + 4)) (zDR hD 3 rfl) ?_)
        refine And.intro (zDX hD 0 rfl) (zrd (v := fd) ((p56bbfr k 17 (by omega)).trans hfd) ?_)
        refine And.intro (zDX hD 0 rfl) (zrd (v := nd) ((p56bbfr k 20 (by omega)).trans hnd) ?_)
        refine And.intro (zDX hD 0 rfl) (fun v84 e84 r84 => ?_)
        refine And.intro ⟨(by show 40 ≤ _; omega), (zDP hD 4 rfl rfl (by omega) (by omega))⟩ ⟨_, zW6i r84, ?_⟩
        refine And.intro (zDX hD 0 rfl) (zrd (v := nd) ((p56bbfr k 20 (by omega)).trans hnd) ?_)
        refine And.intro (zDX hD 0 rfl) ⟨_, (zWi (by omega)), ?_⟩
        refine hQ _ _ _ ?_ ?_ (fun c j h0 h1 h2 h3 h4 => (zxcj h1 ((p56bbfr c j h0).trans rfl))) (fun c j h0 h1 => (zxcj (by omega) ((p56bbbfrL c j h0).trans rfl))) (by omega)
        · intro h8
          first
          | (exfalso; omega)
          | exact ⟨(zxs (by omega) rfl).trans p15hf, (zxcj (by omega) ((p56bbfr k _ (by omega)).trans rfl)).trans hnd, fun h9 => ⟨p15bhv h9, zxe.trans (by omega), fun hm => ⟨(zxu (by omega) rfl).trans (p15bbbhok hm h9).1, fun i hi => (zxu (by omega) rfl).trans ((p15bbbhok hm h9).2 i hi)⟩⟩⟩
        · intro h8
          first
          | (exfalso; omega)
          | (rw [← p48hv, ← p53hv]
             refine ⟨(zxs (by omega) rfl).trans p56hf, (zxcj (by omega) ((p56bbfr k _ (by omega)).trans rfl)).trans hwd, fun h9 => ⟨(p56bhok h9).1, zxe.trans (by omega), fun hm => ?_⟩⟩
             first
             | (exfalso; omega)
             | (have e9 := (p56bhok h9).2
                exact (zxe' (by omega)).trans (by omega)))
  · refine And.intro (zDX hD 0 rfl) ⟨_, sn_V_txt.up (by decide), ?_⟩
    refine ⟨k, c, n, (p : Int), p_, mk, fd, wd, rfl, hD, (by first | exact (zRM_fr hX (fun c j h => rfl)) | (clear hQ; grind [xu])), (by first | exact hc | (clear hQ; grind [xu])), (by omega), hmk, (by omega), hfd, (by omega), hwd, (by omega), (Eq.trans (b := ((-1) : Int)) hf0 (by omega)), ?_⟩
    intro v15o I15o p15hf p15bhv p15bbhv2 p15bbbhok p15bbbbfr
    refine And.intro (zDX hD 0 rfl) (zrd (v := wd) ((p15bbbbfr k 21 (by omega) (by omega) (by omega)).trans hwd) ?_)
    refine And.intro (zDX hD 0 rfl) ⟨_, (zWi (by omega)), ?_⟩
    refine hQ _ _ _ ?_ ?_ (fun c j h0 h1 h2 h3 h4 => (zxcj h2 ((p15bbbbfr c j h0 (by omega) (by omega)).trans rfl))) (fun c j h0 h1 => rfl) (by omega)
    · intro h8
      first
      | (exfalso; omega)
      | exact ⟨(zxs (by omega) rfl).trans p15hf, (zxcj (by omega) ((p15bbbbfr k _ (by omega) (by omega) (by omega)).trans rfl)).trans hnd, fun h9 => ⟨p15bhv h9, zxe.trans (by omega), fun hm => ⟨(zxu (by omega) rfl).trans (p15bbbhok hm h9).1, fun i hi => (zxu (by omega) rfl).trans ((p15bbbhok hm h9).2 i hi)⟩⟩⟩
    · intro h8
      first
      | (exfalso; omega)
      | (rw [← p48hv, ← p53hv]
         refine ⟨(zxs (by omega) rfl).trans p56hf, (zxcj (by omega) ((p15bbbbfr k _ (by omega) (by omega) (by omega)).trans rfl)).trans hwd, fun h9 => ⟨(p56bhok h9).1, zxe.trans (by omega), fun hm => ?_⟩⟩
         first
         | (exfalso; omega)
         | (have e9 := (p56bhok h9).2
            exact (zxe' (by omega)).trans (by omega))))
def T_V_vals2 : ZT := fun args I L R S Q => ∃ (k : Nat) (c : Nat → Int) (n : Nat) (a : Int) (a_ : Nat) (p : Int) (p_ : Nat) (b : Int) (b_ : Nat) (mk : Int) (fd : Nat) (x : Int), args = [zvr k, zvi a, zvi p, zvi b] ∧ (zDy zT20 zF20 k R S) ∧ (zRM k c n I) ∧ (tOk c n) ∧ (a = a_ ∧ 1 ≤ a_ ∧ a_ ≤ 8) ∧ (p = p_ ∧ p_ ≤ n) ∧ (b = b_ ∧ b_ ≤ 1) ∧ (I k 16 = x) ∧ (0 ≤ x ∧ x ≤ 9) ∧ (I k 15 = mk) ∧ (0 ≤ mk ∧ mk ≤ 1) ∧ (I k 17 = fd) ∧ (fd ≤ 199) ∧ (I k 21 = 0) ∧ (I k 20 = 0) ∧ (I k 18 = -1) ∧ ∀ (v : Int) (I' : ZI) (L' : ZI), (I' k 18 = tVz c n b_ a_ p_ (tFv a_ x)) → (tVz c n b_ a_ p_ (tFv a_ x) = -1 → v = tVp c n b_ a_ p_ (tFv a_ x) ∧ (mk = 1 → tVs c n b_ a_ p_ (tFv a_ x) k fd I' L')) → (∀ c j : Nat, ¬ (c = k ∧ j = 18) → ¬ (c = k ∧ j = 20) → ¬ (c = k ∧ j = 21) → ¬ (c = k + 5 ∧ (mk = 1 ∧ 2 * fd ≤ j ∧ j < 2 * fd + oCi a_ 1 (tFv a_ x))) → ¬ (c = k + 6 ∧ (mk = 1 ∧ 80 * fd ≤ j ∧ j < 80 * fd + 80)) → I' c j = I c j) → (∀ c j : Nat, ¬ (c = k ∧ j = 28) → ¬ (c = k + 4 ∧ (mk = 1 ∧ 5 * fd ≤ j ∧ j < 5 * fd + oCi a_ 0 (tFv a_ x))) → L' c j = L c j) → (0 ≤ v ∧ v ≤ 5100) → Q (some (zvi (v))) I' L' R S
theorem sn_V_vals2 : ZSnd 5 20 54 T_V_vals2 := ZSnd.loops (zT20_54 4) (by
  rintro args I L R S Q hz ⟨k, c, n, a, a_, p, p_, b, b_, mk, fd, x, rfl, hD, hX, hc, ha, hp, hb, hx_, hxb, hmk, hmk2, hfd, hfd2, hw0, hd0, hf0, hQ⟩
  obtain ⟨x1, x2⟩ := id hX
  have hn4 := hc.1
  have hk40 := hD.1
  have hfn := (tFn_b a_ (by omega)).1
  have hfv_ : tFv a_ x ≤ tFn a_ := by unfold tFv; split <;> omega
  refine ⟨[16], fun nM tM lsM stM I1 L1 R1 S1 => match tM with
      | 16 => ∃ (i : Nat) (m : Nat) (q : Int) (f : Int), nM = ((6 - i), 0, 0) ∧ lsM = [some (zvr (k)), some (zvi (a_)), some (zvi (p_)), some (zvi (b_)), some (zvi (q)), some (zvi (m)), some (zvi (i))] ∧ stM = [] ∧ R1 = R ∧ S1 = S ∧ (m = tFv a_ x) ∧ (m ≤ 5) ∧ (i ≤ m) ∧ (-1 ≤ f ∧ f ≤ 9000) ∧ (I1 k 18 = f) ∧ (0 ≤ q ∧ q ≤ 5100) ∧ ((f = -1 ∧ q = tVp c n b_ a_ p_ i ∧ ∀ j, j < i → tVf c n b_ a_ p_ j = -1) ∨ (f ≠ -1 ∧ f = tVz c n b_ a_ p_ m)) ∧ (f = -1 → I1 k 21 = oCi a_ 1 i ∧ I1 k 20 = oCi a_ 0 i) ∧ (f = -1 → mk = 1 → tVs c n b_ a_ p_ i k fd I1 L1) ∧ (∀ c j : Nat, ¬ (c = k ∧ j = 18) → ¬ (c = k ∧ j = 20) → ¬ (c = k ∧ j = 21) → ¬ (c = k + 5 ∧ (mk = 1 ∧ 2 * fd ≤ j ∧ j < 2 * fd + oCi a_ 1 (tFv a_ x))) → ¬ (c = k + 6 ∧ (mk = 1 ∧ 80 * fd ≤ j ∧ j < 80 * fd + 80)) → I1 c j = I c j) ∧ (∀ c j : Nat, ¬ (c = k ∧ j = 28) → ¬ (c = k + 4 ∧ (mk = 1 ∧ 5 * fd ≤ j ∧ j < 5 * fd + oCi a_ 0 (tFv a_ x))) → L1 c j = L c j)
      | _ => False, rfl, ?_, ⟨?_, True.intro⟩⟩
  · refine And.intro (zDX hD 0 rfl) (zrd (v := x) hx_ ?_)
    refine ⟨_, sn_V_fin.up (by decide), ?_⟩
    refine ⟨(a : Int), a_, x, rfl, (by omega), (by omega), ?_⟩
    intro v8o p8hv p8bhv2
    refine ⟨((6 - (0 : Nat)), 0, 0), [some (zvr (k)), some (zvi (a_)), some (zvi (p_)), some (zvi (b_)), some (zvi (p)), some (zvi ((tFv a_ x))), some (zvi ((0 : Nat)))], ⟨rfl, (congrArg (fun z => some (zvi z)) (by omega)), (congrArg (fun z => some (zvi z)) (by omega)), (congrArg (fun z => some (zvi z)) (by omega)), rfl, (congrArg (fun z => some (zvi z)) (by omega)), rfl, rfl⟩, 0, (tFv a_ x), p, (-1), rfl, rfl, rfl, rfl, rfl, (by omega), (by omega), (by omega), (by omega), hf0, (by omega), (Or.inl ⟨rfl, by show _ = ((p_ : Nat) : Int); omega, fun j h => absurd h (Nat.not_lt_zero j)⟩), (fun _ => ⟨hw0, hd0⟩), (fun _ _ => tVs_0), (fun c j h0 h1 h2 h3 h4 => rfl), (fun c j h0 h1 => rfl)⟩
  · rintro nM lsM stM I1 L1 R1 S1 hz1 ⟨i, m, q, f, rfl, rfl, rfl, rfl, rfl, hm, hm5, hi, hfb, hfv, hqb9, hst, hwv, hvs, fr, frL⟩
    have hme : oCi a_ 0 (tFv a_ x) = oCi a_ 0 m := by rw [hm]
    have os : i < m → _ := fun h => oCi_s a_ (by omega) i (by omega)
    have om0 : i < m → _ := fun h => oCi_m0 a_ (by omega) m (by omega) i h
    have hme1 : oCi a_ 1 (tFv a_ x) = oCi a_ 1 m := by rw [hm]
    have om1 : i < m → _ := fun h => oCi_m1 a_ (by omega) m (by omega) i h
    have vl : f = -1 → tVp c n b_ a_ p_ i ≤ n := fun h => by rcases hst with z | z; exact (tVp_le hc (by omega) z.2.2).1; exfalso; omega
    refine And.intro ⟨(by omega), (by omega)⟩ ⟨fun h20 => ?_, fun h20 => ?_⟩
    · refine hQ _ _ _ ?_ ?_ (fun c j h0 h1 h2 h3 h4 => ((fr c j h0 h1 h2 (by omega) (by omega)).trans rfl)) (fun c j h0 h1 => ((frL c j h0 (by omega)).trans rfl)) (by omega)
      · rcases hst with z | z
        · rw [← hm, tVz_no (fun j hj => z.2.2 j (by omega))]
          exact hfv.trans z.1
        · rw [← hm]
          exact hfv.trans z.2
      · intro h9
        rw [← hm] at h9 ⊢
        rcases hst with z | z
        · obtain rfl : i = m := (by omega)
          exact ⟨z.2.1, fun h10 => hvs z.1 h10⟩
        · exfalso; omega
    · refine And.intro (zDX hD 0 rfl) (zrd (v := f) hfv ?_)
      refine And.intro ⟨(by omega), (zRb rfl)⟩ ⟨fun h28 => ?_, fun h28 => ?_⟩
      · refine hQ _ _ _ ?_ ?_ (fun c j h0 h1 h2 h3 h4 => ((fr c j h0 h1 h2 (by omega) (by omega)).trans rfl)) (fun c j h0 h1 => ((frL c j h0 (by omega)).trans rfl)) (by omega)
        · rcases hst with z | z
          · rw [← hm, tVz_no (fun j hj => z.2.2 j (by omega))]
            exact hfv.trans z.1
          · rw [← hm]
            exact hfv.trans z.2
        · intro h9
          rw [← hm] at h9 ⊢
          rcases hst with z | z
          · obtain rfl : i = m := (by omega)
            exact ⟨z.2.1, fun h10 => hvs z.1 h10⟩
          · exfalso; omega
      · refine And.intro (zDX hD 0 rfl) ⟨_, sn_V_spc.up (by decide), ?_⟩
        refine ⟨k, c, n, (q : Int), (tVp c n b_ a_ p_ i), (b_ : Int), b_, rfl, hD, (by first | exact (zRM_fr hX (fun c j h => ((fr c j (by omega) (by omega) (by omega) (by omega) (by omega)).trans rfl))) | (clear hQ; grind [xu])), (by first | exact hc | (clear hQ; grind [xu])), (by omega), (by omega), (Eq.trans (b := (f : Int)) hfv (by omega)), ?_⟩
        intro v35o I35o p35hg p35bhv p35bbfr
        rcases p35hg with w41 | w41
        · refine And.intro (zDX hD 0 rfl) (zrd (v := (-1)) w41.2.1 ?_)
          refine And.intro ⟨(zRb rfl), (zRb rfl)⟩ (zbf rfl ?_)
          refine And.intro (zDX hD 0 rfl) ⟨_, sn_V_rv2.up (by decide), ?_⟩
          refine ⟨k, c, n, (a_ : Int), a_, (i : Int), i, (v35o : Int), (tGp c n b_ a_ p_ i), mk, fd, (oCi a_ 1 i), (oCi a_ 0 i), rfl, hD, (by first | exact (zRM_fr hX (fun c j h => ((p35bbfr c j (by omega)).trans ((fr c j (by omega) (by omega) (by omega) (by omega) (by omega)).trans rfl)))) | (clear hQ; grind [xu])), (by first | exact hc | (clear hQ; grind [xu])), (by omega), (by omega), ⟨w41.2.2, by have z := tGe_le hc w41.1; show tGe _ _ _ _ ≤ 5000; omega⟩, ((p35bbfr k 15 (by omega)).trans ((fr k 15 (by omega) (by omega) (by omega) (by omega) (by omega)).trans hmk)), (by omega), ((p35bbfr k 17 (by omega)).trans ((fr k 17 (by omega) (by omega) (by omega) (by omega) (by omega)).trans hfd)), (by omega), (((p35bbfr k _ (by omega)).trans rfl).trans (hwv (by omega)).1), (by omega), (((p35bbfr k _ (by omega)).trans rfl).trans (hwv (by omega)).2), (by omega), (Eq.trans (b := ((-1) : Int)) w41.2.1 (by omega)), ?_⟩
          intro v54o I54o L54o p54ht p54bhn p54bbfr p54bbbfrL p54bbbbhvb9
          refine ⟨((6 - (i + 1)), 0, 0), zlt6 (by omega), [some (zvr (k)), some (zvi (a_)), some (zvi (p_)), some (zvi (b_)), some (zvi (v54o)), some (zvi (m)), some (zvi ((i + 1)))], ⟨rfl, rfl, rfl, rfl, rfl, rfl, rfl, rfl⟩, (i + 1), m, v54o, (tVf c n b_ a_ p_ i), rfl, rfl, rfl, rfl, rfl, (by omega), (by omega), (by omega), (by first | (have z := tVf_b1 (i := i) (b := b_) (a := a_) (q := p_) hc (vl (by omega)); exact z) | (have z := vl (by omega); omega)), ?_, (by omega), ?_, ?_, ?_, (fun c j h0 h1 h2 h3 h4 => ((p54bbfr c j h0 h1 h2 (by omega) (by omega)).trans ((p35bbfr c j h0).trans ((fr c j h0 h1 h2 (by omega) (by omega)).trans rfl)))), (fun c j h0 h1 => ((p54bbbfrL c j h0 (by omega)).trans ((frL c j h0 (by omega)).trans rfl)))⟩
          · first
            | exact w41.2
            | (by_cases t : tFc a_ i = 84
               · exact (p54ht t).1.trans (tVf_t w41.1 t).symm
               · exact (p54bhn t).1.trans (tVf_n w41.1 t).symm)
          · rcases hst with z | z
            · first
              | exact Or.inr ⟨by omega, by rw [tVz_at (i := i) (by omega) z.2.2 (by rw [tVf_g w41.1]; omega), tVf_g w41.1]⟩
              | (by_cases e : tVf c n b_ a_ p_ i = -1
                 · refine Or.inl ⟨e, ?_, fun j hj => ?_⟩
                   · by_cases t : tFc a_ i = 84
                     · rw [tVp_t t]
                       exact ((p54ht t).2.2 ((tVf_t w41.1 t).symm.trans e)).1
                     · rw [tVp_n t]
                       exact ((p54bhn t).2.2 ((tVf_n w41.1 t).symm.trans e)).1
                   · by_cases e2 : j = i
                     · rw [e2]; exact e
                     · exact z.2.2 j (by omega)
                 · exact Or.inr ⟨e, (tVz_at (i := i) (by omega) z.2.2 e).symm⟩)
            · exfalso; omega
          · intro h9
            first
            | (exfalso; omega)
            | (have o := os (by omega)
               by_cases t : tFc a_ i = 84
               · have y := p54ht t
                 have y2 := (y.2.2 ((tVf_t w41.1 t).symm.trans h9)).2.1
                 exact ⟨by omega, by omega⟩
               · have y := p54bhn t
                 have y2 := (y.2.2 ((tVf_n w41.1 t).symm.trans h9)).2.1
                 exact ⟨by omega, by omega⟩)
          · intro h9 h10
            first
            | (exfalso; omega)
            | (have hx9 : ∀ j, j < i → tVf c n b_ a_ p_ j = -1 := by
                 rcases hst with z | z
                 · exact z.2.2
                 · exfalso; omega
               exact tVs_up hc (by omega) (by omega) (by omega) (by omega) (hvs (by omega) h10) hx9 (fun j hj => (p54bbfr (k + 5) j (by omega) (by omega) (by omega) (by omega) (by omega)).trans (p35bbfr (k + 5) j (by omega))) (fun j hj => (p54bbfr (k + 6) j (by omega) (by omega) (by omega) (by omega) (by omega)).trans (p35bbfr (k + 6) j (by omega))) (fun j hj => p54bbbfrL (k + 4) j (by omega) (by omega)) (fun t => ((p54ht t).2.2 ((tVf_t w41.1 t).symm.trans h9)).2.2 h10) (fun t => ((p54bhn t).2.2 ((tVf_n w41.1 t).symm.trans h9)).2.2 h10))
        · refine And.intro (zDX hD 0 rfl) (zrd (v := ((tVp c n b_ a_ p_ i))) w41.2 ?_)
          refine And.intro ⟨(by omega), (zRb rfl)⟩ ⟨fun h45 => ?_, (fun h45 => False.elim (by omega))⟩
          refine ⟨((6 - (i + 1)), 0, 0), zlt6 (by omega), [some (zvr (k)), some (zvi (a_)), some (zvi (p_)), some (zvi (b_)), some (zvi (v35o)), some (zvi (m)), some (zvi ((i + 1)))], ⟨rfl, rfl, rfl, rfl, rfl, rfl, rfl, rfl⟩, (i + 1), m, v35o, ((tVp c n b_ a_ p_ i) : Int), rfl, rfl, rfl, rfl, rfl, (by omega), (by omega), (by omega), (by first | (have z := tVf_b1 (i := i) (b := b_) (a := a_) (q := p_) hc (vl (by omega)); exact z) | (have z := vl (by omega); omega)), ?_, (by omega), ?_, ?_, ?_, (fun c j h0 h1 h2 h3 h4 => ((p35bbfr c j h0).trans ((fr c j h0 h1 h2 (by omega) (by omega)).trans rfl))), (fun c j h0 h1 => ((frL c j h0 (by omega)).trans rfl))⟩
          · first
            | exact w41.2
            | (by_cases t : tFc a_ i = 84
               · exact (p54ht t).1.trans (tVf_t w41.1 t).symm
               · exact (p54bhn t).1.trans (tVf_n w41.1 t).symm)
          · rcases hst with z | z
            · first
              | exact Or.inr ⟨by omega, by rw [tVz_at (i := i) (by omega) z.2.2 (by rw [tVf_g w41.1]; omega), tVf_g w41.1]⟩
              | (by_cases e : tVf c n b_ a_ p_ i = -1
                 · refine Or.inl ⟨e, ?_, fun j hj => ?_⟩
                   · by_cases t : tFc a_ i = 84
                     · rw [tVp_t t]
                       exact ((p54ht t).2.2 ((tVf_t w41.1 t).symm.trans e)).1
                     · rw [tVp_n t]
                       exact ((p54bhn t).2.2 ((tVf_n w41.1 t).symm.trans e)).1
                   · by_cases e2 : j = i
                     · rw [e2]; exact e
                     · exact z.2.2 j (by omega)
                 · exact Or.inr ⟨e, (tVz_at (i := i) (by omega) z.2.2 e).symm⟩)
            · exfalso; omega
          · intro h9
            first
            | (exfalso; omega)
            | (have o := os (by omega)
               by_cases t : tFc a_ i = 84
               · have y := p54ht t
                 have y2 := (y.2.2 ((tVf_t w41.1 t).symm.trans h9)).2.1
                 exact ⟨by omega, by omega⟩
               · have y := p54bhn t
                 have y2 := (y.2.2 ((tVf_n w41.1 t).symm.trans h9)).2.1
                 exact ⟨by omega, by omega⟩)
          · intro h9 h10
            first
            | (exfalso; omega)
            | (have hx9 : ∀ j, j < i → tVf c n b_ a_ p_ j = -1 := by
                 rcases hst with z | z
                 · exact z.2.2
                 · exfalso; omega
               exact tVs_up hc (by omega) (by omega) (by omega) (by omega) (hvs (by omega) h10) hx9 (fun j hj => (p54bbfr (k + 5) j (by omega) (by omega) (by omega) (by omega) (by omega)).trans (p35bbfr (k + 5) j (by omega))) (fun j hj => (p54bbfr (k + 6) j (by omega) (by omega) (by omega) (by omega) (by omega)).trans (p35bbfr (k + 6) j (by omega))) (fun j hj => p54bbbfrL (k + 4) j (by omega) (by omega)) (fun t => ((p54ht t).2.2 ((tVf_t w41.1 t).symm.trans h9)).2.2 h10) (fun t => ((p54bhn t).2.2 ((tVf_n w41.1 t).symm.trans h9)).2.2 h10)))
def T_V_ver2 : ZT := fun args I L R S Q => ∃ (k : Nat) (c : Nat → Int) (n : Nat) (p : Int) (p_ : Nat) (b : Int) (b_ : Nat), args = [zvr k, zvi p, zvi b] ∧ (zDy zT20 zF20 k R S) ∧ (zRM k c n I) ∧ (tOk c n) ∧ (p = p_ ∧ p_ ≤ n) ∧ (b = b_ ∧ b_ ≤ 1) ∧ (I k 18 = -1) ∧ ∀ (v : Int) (I' : ZI) (L' : ZI), ((¬ tGk c p_ b_ ∧ I' k 18 = p_) ∨ (tGk c p_ b_ ∧ I' k 18 = (tNf c n (tGe c n p_ b_) 0 1 3) ∧ ((tNf c n (tGe c n p_ b_) 0 1 3) = -1 → v = tNe c n (tGe c n p_ b_) 0 ∧ I' k 16 = tNv c n (tGe c n p_ b_) 0 ∧ 1 ≤ tNv c n (tGe c n p_ b_) 0 ∧ tNv c n (tGe c n p_ b_) 0 ≤ 3))) → (∀ c j : Nat, ¬ (c = k ∧ j = 18) → ¬ (c = k ∧ j = 16) → I' c j = I c j) → (∀ c j : Nat, ¬ (c = k ∧ j = 28) → L' c j = L c j) → (0 ≤ v ∧ v ≤ 5100) → Q (some (zvi (v))) I' L' R S
theorem sn_V_ver2 : ZSnd 4 20 40 T_V_ver2 := ZSnd.of (zT20_40 3) (by
  rintro args I L R S Q hz ⟨k, c, n, p, p_, b, b_, rfl, hD, hX, hc, hp, hb, hf0, hQ⟩
  obtain ⟨x1, x2⟩ := id hX
  have hn4 := hc.1
  have hk40 := hD.1
  refine And.intro rfl ?_
  refine And.intro (zDX hD 0 rfl) ⟨_, sn_V_spc.up (by decide), ?_⟩
  refine ⟨k, c, n, (p : Int), p_, (b : Int), b_, rfl, hD, (by first | exact (zRM_fr hX (fun c j h => rfl)) | (clear hQ; grind [xu])), (by first | exact hc | (clear hQ; grind [xu])), (by omega), (by omega), (Eq.trans (b := ((-1) : Int)) hf0 (by omega)), ?_⟩
  intro v3o I3o p3hg p3bhv p3bbfr
  rcases p3hg with w8 | w8
  · refine And.intro (zDX hD 0 rfl) (zrd (v := (-1)) w8.2.1 ?_)
    refine And.intro ⟨(zRb rfl), (zRb rfl)⟩ (zbt rfl ?_)
    refine And.intro (zDX hD 0 rfl) ⟨_, sn_V_num92.up (by decide), ?_⟩
    refine ⟨k, c, n, (v3o : Int), (tGe c n p_ b_), (0 : Int), 0, (1 : Int), (3 : Int), rfl, hD, (by first | exact (zRM_fr hX (fun c j h => ((p3bbfr c j (by omega)).trans rfl))) | (clear hQ; grind [xu])), (by first | exact hc | (clear hQ; grind [xu])), ⟨w8.2.2, by have z := tGe_le hc w8.1; omega⟩, (by omega), (by clear hQ; grind [xu]), (Eq.trans (b := ((-1) : Int)) w8.2.1 (by omega)), ?_⟩
    intro v24o I24o L24o p24hf p24bhok p24bbfr p24bbbfrL p24bbbbhvb9
    refine And.intro (zDX hD 0 rfl) (fun v31 e31 r31 => ?_)
    refine ⟨_, zWt _, ?_⟩
    refine And.intro (zDX hD 0 rfl) ⟨_, (zWi (zn_r _)), ?_⟩
    refine hQ _ _ _ ?_ (fun c j h0 h1 => (zxcj h1 ((p24bbfr c j h0).trans ((p3bbfr c j h0).trans rfl)))) (fun c j h0 => ((p24bbbfrL c j h0).trans rfl)) (by omega)
    · first
      | exact Or.inl ⟨w8.1, w8.2⟩
      | (refine Or.inr ⟨w8.1, (zxs (by omega) rfl).trans p24hf, fun h9 => ?_⟩
         have y := p24bhok h9
         have y2 := tNf_r h9
         have y3 := y.2
         refine ⟨y.1, zxe.trans ?_, y2⟩
         first
         | exact (zn_id (by unfold r32; omega)).trans (by omega)
         | (rw [zn_id (by unfold r32; omega)]; omega))
  · refine And.intro (zDX hD 0 rfl) (zrd (v := p_) w8.2 ?_)
    refine And.intro ⟨(by omega), (zRb rfl)⟩ ⟨(fun h12 => False.elim (by omega)), fun h12 => ?_⟩
    refine hQ _ _ _ ?_ (fun c j h0 h1 => ((p3bbfr c j h0).trans rfl)) (fun c j h0 => rfl) (by omega)
    · first
      | exact Or.inl ⟨w8.1, w8.2⟩
      | (refine Or.inr ⟨w8.1, (zxs (by omega) rfl).trans p24hf, fun h9 => ?_⟩
         have y := p24bhok h9
         have y2 := tNf_r h9
         have y3 := y.2
         refine ⟨y.1, zxe.trans ?_, y2⟩
         first
         | exact (zn_id (by unfold r32; omega)).trans (by omega)
         | (rw [zn_id (by unfold r32; omega)]; omega)))
