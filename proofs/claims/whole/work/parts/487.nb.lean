/-! nb -/
def T_V_num9 : ZT := fun args I L R S Q => ∃ (k : Nat) (c : Nat → Int) (n : Nat) (p : Int) (p_ : Nat) (b : Int) (b_ : Nat) (lo : Int) (hi : Int), args = [zvr k, zvi p, zvi b, zvl lo, zvl hi] ∧ (zDy zT20 zF20 k R S) ∧ (zRM k c n I) ∧ (tOk c n) ∧ (p = p_ ∧ p_ ≤ 5000) ∧ (b = b_ ∧ b_ ≤ 1) ∧ ((-1000000000 ≤ lo ∧ lo ≤ 1000000000) ∧ -1000000000 ≤ hi ∧ hi ≤ 1000000000) ∧ (I k 18 = -1) ∧ ∀ (v : Int) (I' : ZI) (L' : ZI), (I' k 18 = (tNf c n p_ b_ lo hi)) → ((tNf c n p_ b_ lo hi) = -1 → v = tNe c n p_ b_ ∧ L' k 28 = tNv c n p_ b_) → (∀ c j : Nat, ¬ (c = k ∧ j = 18) → I' c j = I c j) → (∀ c j : Nat, ¬ (c = k ∧ j = 28) → L' c j = L c j) → Q (some (zvi (v))) I' L' R S
theorem sn_V_num9 : ZSnd 3 20 36 T_V_num9 := ZSnd.loops (zT20_36 2) (by
  rintro args I L R S Q hz ⟨k, c, n, p, p_, b, b_, lo, hi, rfl, hD, hX, hc, hp, hb, hlo, hf0, hQ⟩
  obtain ⟨x1, x2⟩ := id hX
  have hn4 := hc.1
  have hk40 := hD.1
  refine ⟨[126], fun nM tM lsM stM I1 L1 R1 S1 => match tM with
      | 126 => ∃ (i : Nat) (s : Int) (q : Int) (r : Int) (v : Int) (x : Int), nM = ((7 - i), 0, 0) ∧ lsM = [some (zvr (k)), some (zvi (p_)), none, some (zvl (lo)), none, some (zvl (hi)), none, some (zvi (s)), some (zvi (q)), some (zvl (v)), none, some (zvi (r)), some (zvl (x)), none, some (zvi (i))] ∧ stM = [] ∧ L1 = L ∧ R1 = R ∧ S1 = S ∧ ((tNr c n p_ - (tNq c n p_ + 1)) ≤ i ∧ i ≤ 6) ∧ ((c p_ = 45 ∧ s = p_ + 1) ∨ (c p_ ≠ 45 ∧ s = p_)) ∧ (r = tNr c n p_) ∧ (b_ = 1) ∧ (tFr c (tNq c n p_) b_) ∧ (¬ tBd c (tNs c p_) (tNq c n p_)) ∧ (¬ tBd c (tNq c n p_ + 1) (tNr c n p_)) ∧ (v = 1000000 * tVl c (tNs c p_) (tNq c n p_ - tNs c p_)) ∧ (0 ≤ v ∧ v ≤ 9999000000) ∧ (x = tTn (i - (tNr c n p_ - (tNq c n p_ + 1))) * tVl c (tNq c n p_ + 1) (tNr c n p_ - (tNq c n p_ + 1))) ∧ (0 ≤ x ∧ x ≤ 999999) ∧ (I1 k 18 = -1) ∧ (∀ c j : Nat, ¬ (c = k ∧ j = 18) → I1 c j = I c j)
      | _ => False, rfl, ?_, ⟨?_, True.intro⟩⟩
  · refine And.intro (zDX hD 0 rfl) ⟨_, sn_V_c.up (by decide), ?_⟩
    refine ⟨k, c, n, (p : Int), p_, rfl, hD, (by first | exact (zRM_fr hX (fun c j h => rfl)) | (clear hQ; grind [xu])), (by first | exact hc | (clear hQ; grind [xu])), (by omega), ?_⟩
    intro v2o p2hv p2bhv2
    refine And.intro ⟨(by omega), (zRb rfl)⟩ ⟨fun h7 => ?_, fun h7 => ?_⟩
    · have t7 : tNs c p_ = p_ := (tNs_n (by omega))
      have t7b : tNv c n p_ b_ = tNu c n p_ b_ := (tNv_n (by omega))
      refine And.intro (zDX hD 0 rfl) ⟨_, sn_V_dig.up (by decide), ?_⟩
      refine ⟨k, c, n, (p : Int), (tNs c p_), (4 : Int), 4, rfl, hD, (by first | exact (zRM_fr hX (fun c j h => rfl)) | (clear hQ; grind [xu])), (by first | exact hc | (clear hQ; grind [xu])), (by omega), (by omega), (Eq.trans (b := ((-1) : Int)) hf0 (by omega)), ?_⟩
      intro v23o I23o p23hv p23bhf p23bbfr
      have g23 : v23o = tNq c n p_ := p23hv
      have g23b : tNs c p_ ≤ tNq c n p_ ∧ tNq c n p_ ≤ tNs c p_ + 4 := (by have w := tDe_sp (p := tNs c p_) (m := 4) hc; exact ⟨w.1, w.2.1⟩)
      rcases p23bhf with w23 | w23
      · refine And.intro (zDX hD 0 rfl) (zrd (v := (-1)) w23.2 ?_)
        refine And.intro ⟨(zRb rfl), (zRb rfl)⟩ (zbf rfl ?_)
        refine And.intro (zDX hD 0 rfl) ⟨_, sn_V_val.up (by decide), ?_⟩
        refine ⟨k, c, n, (p : Int), (tNs c p_), (v23o : Int), (tNq c n p_), rfl, hD, (by first | exact (zRM_fr hX (fun c j h => ((p23bbfr c j (by omega)).trans rfl))) | (clear hQ; grind [xu])), (by first | exact hc | (clear hQ; grind [xu])), (by omega), ⟨by omega, by omega, by omega, (tDe_sp hc).2.2.2⟩, (tDe_sp hc).2.2.1, ?_⟩
        intro v41o p41hv p41bhv2
        have g41 : v41o = tVl c (tNs c p_) (tNq c n p_ - tNs c p_) := p41hv
        have g41b : 0 ≤ v41o ∧ v41o ≤ 9999 := (by have w := tDe_sp (p := tNs c p_) (m := 4) hc; have w2 := tVl_b (c := c) (p := tNs c p_) (n := tNq c n p_ - tNs c p_) (fun i h1 h2 => w.2.2.1 i h1 (by show i < tNq c n p_; omega)) (Nat.le_refl _); omega)
        refine And.intro (by omega) ⟨fun h51 => ?_, fun h51 => ?_⟩
        · have t51 : ¬ tFr c (tNq c n p_) b_ := (fun w => by have w1 := w.1; omega)
          have t51b : tNu c n p_ b_ = tVl c (tNs c p_) (tNq c n p_ - tNs c p_) := (tNu_0 (by omega))
          refine And.intro (by omega) ⟨fun h63 => ?_, (fun h63 => False.elim (by omega))⟩
          refine And.intro ⟨(by omega), (by omega)⟩ ⟨fun h161 => ?_, (fun h161 => False.elim (by omega))⟩
          refine ⟨_, _, ⟨zW6i (by omega), zW6i (by omega)⟩, fun z178 c178 => ?_⟩
          refine And.intro c178.2.2 ⟨fun h179 => ?_, fun h179 => ?_⟩
          · have t179 : (1 : Int) ≤ 2 := (by decide)
            refine And.intro (zDX hD 0 rfl) (Exists.intro _ (And.intro (zinl_ok (zT20_9 1)) (And.intro rfl ?_)))
            refine And.intro (zDX hD 0 rfl) (zrd (v := (-1)) w23.2 ?_)
            refine And.intro ⟨(zRb rfl), (zRb rfl)⟩ (zbf rfl ?_)
            refine And.intro (zDX hD 0 rfl) ⟨_, (zWi (by omega)), ?_⟩
            refine And.intro (zDX hD 0 rfl) ⟨_, zW6i (by omega), ?_⟩
            refine hQ _ _ _ ?_ ?_ (fun c j h0 => (zxcj h0 ((p23bbfr c j (by omega)).trans rfl))) (fun c j h0 => (zxcj h0 rfl))
            · first
              | (rw [tNf_1 (show tBd c (tNs c p_) (tNq c n p_) from w23.1)]
                 exact w23.2)
              | (rw [tNf_2 w23.1 t82 w97.1]
                 exact w97.2)
              | (have m_ := t179
                 rw [tNf_3 w23.1 (fun z => by first | exact t82 z.1 | exact t51 z.1) (by rw [t7b]; (first | rw [t82b] | rw [t51b]); omega)]
                 exact zxe.trans (by omega))
              | (have m_ := t187b
                 rw [tNf_4 w23.1 (fun z => by first | exact t82 z.1 | exact t51 z.1) (by rw [t7b]; (first | rw [t82b] | rw [t51b]); omega)]
                 exact w23.2)
              | (have m_ := t187
                 rw [tNf_3 w23.1 (fun z => by first | exact t82 z.1 | exact t51 z.1) (by rw [t7b]; (first | rw [t82b] | rw [t51b]); omega)]
                 exact zxe.trans (by omega))
            · intro h9
              first
              | (rw [tNf_1 (show tBd c (tNs c p_) (tNq c n p_) from w23.1)] at h9
                 omega)
              | (rw [tNf_2 w23.1 t82 w97.1] at h9
                 omega)
              | (have m_ := t179
                 rw [tNf_3 w23.1 (fun z => by first | exact t82 z.1 | exact t51 z.1) (by rw [t7b]; (first | rw [t82b] | rw [t51b]); omega)] at h9
                 omega)
              | (have m_ := t187b
                 refine ⟨?_, zxe.trans (by rw [t7b]; (first | rw [t82b] | rw [t51b]); omega)⟩
                 rw [tNe_n (by first | exact t82 | exact t51)]
                 exact p23hv)
              | (have m_ := t187
                 rw [tNf_3 w23.1 (fun z => by first | exact t82 z.1 | exact t51 z.1) (by rw [t7b]; (first | rw [t82b] | rw [t51b]); omega)] at h9
                 omega)
          · refine ⟨_, _, ⟨zW6i (by omega), zW6i (by omega)⟩, fun z186 c186 => ?_⟩
            refine And.intro c186.2.2 ⟨fun h187 => ?_, fun h187 => ?_⟩
            · have t187 : (1 : Int) ≤ 2 := (by decide)
              have t187b : (1 : Int) ≤ 2 := (by decide)
              refine And.intro (zDX hD 0 rfl) ⟨_, zW6i (by omega), ?_⟩
              refine hQ _ _ _ ?_ ?_ (fun c j h0 => ((p23bbfr c j (by omega)).trans rfl)) (fun c j h0 => (zxcj h0 rfl))
              · first
                | (rw [tNf_1 (show tBd c (tNs c p_) (tNq c n p_) from w23.1)]
                   exact w23.2)
                | (rw [tNf_2 w23.1 t82 w97.1]
                   exact w97.2)
                | (have m_ := t179
                   rw [tNf_3 w23.1 (fun z => by first | exact t82 z.1 | exact t51 z.1) (by rw [t7b]; (first | rw [t82b] | rw [t51b]); omega)]
                   exact zxe.trans (by omega))
                | (have m_ := t187b
                   rw [tNf_4 w23.1 (fun z => by first | exact t82 z.1 | exact t51 z.1) (by rw [t7b]; (first | rw [t82b] | rw [t51b]); omega)]
                   exact w23.2)
                | (have m_ := t187
                   rw [tNf_3 w23.1 (fun z => by first | exact t82 z.1 | exact t51 z.1) (by rw [t7b]; (first | rw [t82b] | rw [t51b]); omega)]
                   exact zxe.trans (by omega))
              · intro h9
                first
                | (rw [tNf_1 (show tBd c (tNs c p_) (tNq c n p_) from w23.1)] at h9
                   omega)
                | (rw [tNf_2 w23.1 t82 w97.1] at h9
                   omega)
                | (have m_ := t179
                   rw [tNf_3 w23.1 (fun z => by first | exact t82 z.1 | exact t51 z.1) (by rw [t7b]; (first | rw [t82b] | rw [t51b]); omega)] at h9
                   omega)
                | (have m_ := t187b
                   refine ⟨?_, zxe.trans (by rw [t7b]; (first | rw [t82b] | rw [t51b]); omega)⟩
                   rw [tNe_n (by first | exact t82 | exact t51)]
                   exact p23hv)
                | (have m_ := t187
                   rw [tNf_3 w23.1 (fun z => by first | exact t82 z.1 | exact t51 z.1) (by rw [t7b]; (first | rw [t82b] | rw [t51b]); omega)] at h9
                   omega)
            · have t187 : (1 : Int) ≤ 2 := (by decide)
              refine And.intro (zDX hD 0 rfl) (Exists.intro _ (And.intro (zinl_ok (zT20_9 1)) (And.intro rfl ?_)))
              refine And.intro (zDX hD 0 rfl) (zrd (v := (-1)) w23.2 ?_)
              refine And.intro ⟨(zRb rfl), (zRb rfl)⟩ (zbf rfl ?_)
              refine And.intro (zDX hD 0 rfl) ⟨_, (zWi (by omega)), ?_⟩
              refine And.intro (zDX hD 0 rfl) ⟨_, zW6i (by omega), ?_⟩
              refine hQ _ _ _ ?_ ?_ (fun c j h0 => (zxcj h0 ((p23bbfr c j (by omega)).trans rfl))) (fun c j h0 => (zxcj h0 rfl))
              · first
                | (rw [tNf_1 (show tBd c (tNs c p_) (tNq c n p_) from w23.1)]
                   exact w23.2)
                | (rw [tNf_2 w23.1 t82 w97.1]
                   exact w97.2)
                | (have m_ := t179
                   rw [tNf_3 w23.1 (fun z => by first | exact t82 z.1 | exact t51 z.1) (by rw [t7b]; (first | rw [t82b] | rw [t51b]); omega)]
                   exact zxe.trans (by omega))
                | (have m_ := t187b
                   rw [tNf_4 w23.1 (fun z => by first | exact t82 z.1 | exact t51 z.1) (by rw [t7b]; (first | rw [t82b] | rw [t51b]); omega)]
                   exact w23.2)
                | (have m_ := t187
                   rw [tNf_3 w23.1 (fun z => by first | exact t82 z.1 | exact t51 z.1) (by rw [t7b]; (first | rw [t82b] | rw [t51b]); omega)]
                   exact zxe.trans (by omega))
              · intro h9
                first
                | (rw [tNf_1 (show tBd c (tNs c p_) (tNq c n p_) from w23.1)] at h9
                   omega)
                | (rw [tNf_2 w23.1 t82 w97.1] at h9
                   omega)
                | (have m_ := t179
                   rw [tNf_3 w23.1 (fun z => by first | exact t82 z.1 | exact t51 z.1) (by rw [t7b]; (first | rw [t82b] | rw [t51b]); omega)] at h9
                   omega)
                | (have m_ := t187b
                   refine ⟨?_, zxe.trans (by rw [t7b]; (first | rw [t82b] | rw [t51b]); omega)⟩
                   rw [tNe_n (by first | exact t82 | exact t51)]
                   exact p23hv)
                | (have m_ := t187
                   rw [tNf_3 w23.1 (fun z => by first | exact t82 z.1 | exact t51 z.1) (by rw [t7b]; (first | rw [t82b] | rw [t51b]); omega)] at h9
                   omega)
        · have t51 : b_ = 1 := (by omega)
          refine And.intro (by omega) ⟨(fun h63 => False.elim (by omega)), fun h63 => ?_⟩
          refine And.intro (zDX hD 0 rfl) (zrd (v := (-1)) w23.2 ?_)
          refine And.intro ⟨(zRb rfl), (zRb rfl)⟩ (zbf rfl ?_)
          refine And.intro (zDX hD 0 rfl) ⟨_, sn_V_c.up (by decide), ?_⟩
          refine ⟨k, c, n, (v23o : Int), (tNq c n p_), rfl, hD, (by first | exact (zRM_fr hX (fun c j h => ((p23bbfr c j (by omega)).trans rfl))) | (clear hQ; grind [xu])), (by first | exact hc | (clear hQ; grind [xu])), (by omega), ?_⟩
          intro v77o p77hv p77bhv2
          refine And.intro ⟨(by omega), (zRb rfl)⟩ ⟨fun h82 => ?_, fun h82 => ?_⟩
          · have t82 : ¬ tFr c (tNq c n p_) b_ := (fun w => by have w2 := w.2; omega)
            have t82b : tNu c n p_ b_ = 1000000 * tVl c (tNs c p_) (tNq c n p_ - tNs c p_) := (tNu_n t51 t82)
            refine And.intro ⟨(by omega), (by omega)⟩ ⟨fun h161 => ?_, (fun h161 => False.elim (by omega))⟩
            refine ⟨_, _, ⟨zW6i (by omega), zW6i (by omega)⟩, fun z178 c178 => ?_⟩
            refine And.intro c178.2.2 ⟨fun h179 => ?_, fun h179 => ?_⟩
            · have t179 : (1 : Int) ≤ 2 := (by decide)
              refine And.intro (zDX hD 0 rfl) (Exists.intro _ (And.intro (zinl_ok (zT20_9 1)) (And.intro rfl ?_)))
              refine And.intro (zDX hD 0 rfl) (zrd (v := (-1)) w23.2 ?_)
              refine And.intro ⟨(zRb rfl), (zRb rfl)⟩ (zbf rfl ?_)
              refine And.intro (zDX hD 0 rfl) ⟨_, (zWi (by omega)), ?_⟩
              refine And.intro (zDX hD 0 rfl) ⟨_, zW6i (by omega), ?_⟩
              refine hQ _ _ _ ?_ ?_ (fun c j h0 => (zxcj h0 ((p23bbfr c j (by omega)).trans rfl))) (fun c j h0 => (zxcj h0 rfl))
              · first
                | (rw [tNf_1 (show tBd c (tNs c p_) (tNq c n p_) from w23.1)]
                   exact w23.2)
                | (rw [tNf_2 w23.1 t82 w97.1]
                   exact w97.2)
                | (have m_ := t179
                   rw [tNf_3 w23.1 (fun z => by first | exact t82 z.1 | exact t51 z.1) (by rw [t7b]; (first | rw [t82b] | rw [t51b]); omega)]
                   exact zxe.trans (by omega))
                | (have m_ := t187b
                   rw [tNf_4 w23.1 (fun z => by first | exact t82 z.1 | exact t51 z.1) (by rw [t7b]; (first | rw [t82b] | rw [t51b]); omega)]
                   exact w23.2)
                | (have m_ := t187
                   rw [tNf_3 w23.1 (fun z => by first | exact t82 z.1 | exact t51 z.1) (by rw [t7b]; (first | rw [t82b] | rw [t51b]); omega)]
                   exact zxe.trans (by omega))
              · intro h9
                first
                | (rw [tNf_1 (show tBd c (tNs c p_) (tNq c n p_) from w23.1)] at h9
                   omega)
                | (rw [tNf_2 w23.1 t82 w97.1] at h9
                   omega)
                | (have m_ := t179
                   rw [tNf_3 w23.1 (fun z => by first | exact t82 z.1 | exact t51 z.1) (by rw [t7b]; (first | rw [t82b] | rw [t51b]); omega)] at h9
                   omega)
                | (have m_ := t187b
                   refine ⟨?_, zxe.trans (by rw [t7b]; (first | rw [t82b] | rw [t51b]); omega)⟩
                   rw [tNe_n (by first | exact t82 | exact t51)]
                   exact p23hv)
                | (have m_ := t187
                   rw [tNf_3 w23.1 (fun z => by first | exact t82 z.1 | exact t51 z.1) (by rw [t7b]; (first | rw [t82b] | rw [t51b]); omega)] at h9
                   omega)
            · refine ⟨_, _, ⟨zW6i (by omega), zW6i (by omega)⟩, fun z186 c186 => ?_⟩
              refine And.intro c186.2.2 ⟨fun h187 => ?_, fun h187 => ?_⟩
              · have t187 : (1 : Int) ≤ 2 := (by decide)
                have t187b : (1 : Int) ≤ 2 := (by decide)
                refine And.intro (zDX hD 0 rfl) ⟨_, zW6i (by omega), ?_⟩
                refine hQ _ _ _ ?_ ?_ (fun c j h0 => ((p23bbfr c j (by omega)).trans rfl)) (fun c j h0 => (zxcj h0 rfl))
                · first
                  | (rw [tNf_1 (show tBd c (tNs c p_) (tNq c n p_) from w23.1)]
                     exact w23.2)
                  | (rw [tNf_2 w23.1 t82 w97.1]
                     exact w97.2)
                  | (have m_ := t179
                     rw [tNf_3 w23.1 (fun z => by first | exact t82 z.1 | exact t51 z.1) (by rw [t7b]; (first | rw [t82b] | rw [t51b]); omega)]
                     exact zxe.trans (by omega))
                  | (have m_ := t187b
                     rw [tNf_4 w23.1 (fun z => by first | exact t82 z.1 | exact t51 z.1) (by rw [t7b]; (first | rw [t82b] | rw [t51b]); omega)]
                     exact w23.2)
                  | (have m_ := t187
                     rw [tNf_3 w23.1 (fun z => by first | exact t82 z.1 | exact t51 z.1) (by rw [t7b]; (first | rw [t82b] | rw [t51b]); omega)]
                     exact zxe.trans (by omega))
                · intro h9
                  first
                  | (rw [tNf_1 (show tBd c (tNs c p_) (tNq c n p_) from w23.1)] at h9
                     omega)
                  | (rw [tNf_2 w23.1 t82 w97.1] at h9
                     omega)
                  | (have m_ := t179
                     rw [tNf_3 w23.1 (fun z => by first | exact t82 z.1 | exact t51 z.1) (by rw [t7b]; (first | rw [t82b] | rw [t51b]); omega)] at h9
                     omega)
                  | (have m_ := t187b
                     refine ⟨?_, zxe.trans (by rw [t7b]; (first | rw [t82b] | rw [t51b]); omega)⟩
                     rw [tNe_n (by first | exact t82 | exact t51)]
                     exact p23hv)
                  | (have m_ := t187
                     rw [tNf_3 w23.1 (fun z => by first | exact t82 z.1 | exact t51 z.1) (by rw [t7b]; (first | rw [t82b] | rw [t51b]); omega)] at h9
                     omega)
              · have t187 : (1 : Int) ≤ 2 := (by decide)
                refine And.intro (zDX hD 0 rfl) (Exists.intro _ (And.intro (zinl_ok (zT20_9 1)) (And.intro rfl ?_)))
                refine And.intro (zDX hD 0 rfl) (zrd (v := (-1)) w23.2 ?_)
                refine And.intro ⟨(zRb rfl), (zRb rfl)⟩ (zbf rfl ?_)
                refine And.intro (zDX hD 0 rfl) ⟨_, (zWi (by omega)), ?_⟩
                refine And.intro (zDX hD 0 rfl) ⟨_, zW6i (by omega), ?_⟩
                refine hQ _ _ _ ?_ ?_ (fun c j h0 => (zxcj h0 ((p23bbfr c j (by omega)).trans rfl))) (fun c j h0 => (zxcj h0 rfl))
                · first
                  | (rw [tNf_1 (show tBd c (tNs c p_) (tNq c n p_) from w23.1)]
                     exact w23.2)
                  | (rw [tNf_2 w23.1 t82 w97.1]
                     exact w97.2)
                  | (have m_ := t179
                     rw [tNf_3 w23.1 (fun z => by first | exact t82 z.1 | exact t51 z.1) (by rw [t7b]; (first | rw [t82b] | rw [t51b]); omega)]
                     exact zxe.trans (by omega))
                  | (have m_ := t187b
                     rw [tNf_4 w23.1 (fun z => by first | exact t82 z.1 | exact t51 z.1) (by rw [t7b]; (first | rw [t82b] | rw [t51b]); omega)]
                     exact w23.2)
                  | (have m_ := t187
                     rw [tNf_3 w23.1 (fun z => by first | exact t82 z.1 | exact t51 z.1) (by rw [t7b]; (first | rw [t82b] | rw [t51b]); omega)]
                     exact zxe.trans (by omega))
                · intro h9
                  first
                  | (rw [tNf_1 (show tBd c (tNs c p_) (tNq c n p_) from w23.1)] at h9
                     omega)
                  | (rw [tNf_2 w23.1 t82 w97.1] at h9
                     omega)
                  | (have m_ := t179
                     rw [tNf_3 w23.1 (fun z => by first | exact t82 z.1 | exact t51 z.1) (by rw [t7b]; (first | rw [t82b] | rw [t51b]); omega)] at h9
                     omega)
                  | (have m_ := t187b
                     refine ⟨?_, zxe.trans (by rw [t7b]; (first | rw [t82b] | rw [t51b]); omega)⟩
                     rw [tNe_n (by first | exact t82 | exact t51)]
                     exact p23hv)
                  | (have m_ := t187
                     rw [tNf_3 w23.1 (fun z => by first | exact t82 z.1 | exact t51 z.1) (by rw [t7b]; (first | rw [t82b] | rw [t51b]); omega)] at h9
                     omega)
          · have t82 : tFr c (tNq c n p_) b_ := ⟨t51, by omega⟩
            refine And.intro (zDX hD 0 rfl) ⟨_, sn_V_dig.up (by decide), ?_⟩
            refine ⟨k, c, n, ((v23o + 1) : Int), (tNq c n p_ + 1), (6 : Int), 6, rfl, hD, (by first | exact (zRM_fr hX (fun c j h => ((p23bbfr c j (by omega)).trans rfl))) | (clear hQ; grind [xu])), (by first | exact hc | (clear hQ; grind [xu])), (by omega), (by omega), (Eq.trans (b := ((-1) : Int)) w23.2 (by omega)), ?_⟩
            intro v92o I92o p92hv p92bhf p92bbfr
            have g92 : v92o = tNr c n p_ := p92hv
            have g92b : tNq c n p_ + 1 ≤ tNr c n p_ ∧ tNr c n p_ ≤ tNq c n p_ + 7 := (by have w := tDe_sp (p := tNq c n p_ + 1) (m := 6) hc; exact ⟨w.1, w.2.1⟩)
            rcases p92bhf with w97 | w97
            · refine And.intro (zDX hD 0 rfl) (zrd (v := (-1)) w97.2 ?_)
              refine And.intro ⟨(zRb rfl), (zRb rfl)⟩ (zbf rfl ?_)
              refine And.intro (zDX hD 0 rfl) ⟨_, sn_V_val.up (by decide), ?_⟩
              refine ⟨k, c, n, ((v23o + 1) : Int), (tNq c n p_ + 1), (v92o : Int), (tNr c n p_), rfl, hD, (by first | exact (zRM_fr hX (fun c j h => ((p92bbfr c j (by omega)).trans ((p23bbfr c j (by omega)).trans rfl)))) | (clear hQ; grind [xu])), (by first | exact hc | (clear hQ; grind [xu])), (by omega), ⟨by omega, by omega, by omega, (tDe_sp hc).2.2.2⟩, (tDe_sp hc).2.2.1, ?_⟩
              intro v112o p112hv p112bhv2
              have g112 : v112o = tVl c (tNq c n p_ + 1) (tNr c n p_ - (tNq c n p_ + 1)) := p112hv
              refine ⟨((7 - ((tNr c n p_ - (tNq c n p_ + 1)) : Nat)), 0, 0), [some (zvr (k)), some (zvi (p_)), none, some (zvl (lo)), none, some (zvl (hi)), none, some (zvi (p)), some (zvi (v23o)), some (zvl ((1000000 * v41o))), none, some (zvi (v92o)), some (zvl (v112o)), none, some (zvi (((tNr c n p_ - (tNq c n p_ + 1)) : Nat)))], ⟨rfl, (congrArg (fun z => some (zvi z)) (by omega)), rfl, rfl, rfl, rfl, rfl, rfl, rfl, (congrArg (fun z => some (zvi z)) (by omega)), rfl⟩, (tNr c n p_ - (tNq c n p_ + 1)), p, v23o, v92o, (1000000 * v41o), v112o, rfl, rfl, rfl, rfl, rfl, rfl, (by omega), (by first | exact Or.inl ⟨by omega, by omega⟩ | exact Or.inr ⟨by omega, by omega⟩), (by omega), t51, t82, w23.1, w97.1, (by omega), (by omega), (by rw [Nat.sub_self, ← g112]; show _ = 1 * _; omega), (by omega), w97.2, (fun c j h0 => ((p92bbfr c j (by omega)).trans ((p23bbfr c j (by omega)).trans rfl)))⟩
            · refine And.intro (zDX hD 0 rfl) (zrd (v := (tDe c n (tNq c n p_ + 1) 6)) w97.2 ?_)
              refine And.intro ⟨(by omega), (zRb rfl)⟩ ⟨fun h102 => ?_, (fun h102 => False.elim (by omega))⟩
              refine And.intro ⟨(by omega), (by omega)⟩ ⟨fun h161 => ?_, (fun h161 => False.elim (by omega))⟩
              refine ⟨_, _, ⟨zW6i (by omega), zW6i (by omega)⟩, fun z178 c178 => ?_⟩
              refine And.intro c178.2.2 ⟨fun h179 => ?_, fun h179 => ?_⟩
              · have t179 : (1 : Int) ≤ 2 := (by decide)
                refine And.intro (zDX hD 0 rfl) (Exists.intro _ (And.intro (zinl_ok (zT20_9 1)) (And.intro rfl ?_)))
                refine And.intro (zDX hD 0 rfl) (zrd (v := (tDe c n (tNq c n p_ + 1) 6)) w97.2 ?_)
                refine And.intro ⟨(by omega), (zRb rfl)⟩ ⟨fun h5_192 => ?_, (fun h5_192 => False.elim (by omega))⟩
                refine And.intro (zDX hD 0 rfl) ⟨_, zW6i (by omega), ?_⟩
                refine hQ _ _ _ ?_ ?_ (fun c j h0 => ((p92bbfr c j (by omega)).trans ((p23bbfr c j (by omega)).trans rfl))) (fun c j h0 => (zxcj h0 rfl))
                · first
                  | (rw [tNf_1 (show tBd c (tNs c p_) (tNq c n p_) from w23.1)]
                     exact w23.2)
                  | (rw [tNf_2 w23.1 t82 w97.1]
                     exact w97.2)
                  | (have m_ := t179
                     rw [tNf_3 w23.1 (fun z => by first | exact t82 z.1 | exact t51 z.1) (by rw [t7b]; (first | rw [t82b] | rw [t51b]); omega)]
                     exact zxe.trans (by omega))
                  | (have m_ := t187b
                     rw [tNf_4 w23.1 (fun z => by first | exact t82 z.1 | exact t51 z.1) (by rw [t7b]; (first | rw [t82b] | rw [t51b]); omega)]
                     exact w23.2)
                  | (have m_ := t187
                     rw [tNf_3 w23.1 (fun z => by first | exact t82 z.1 | exact t51 z.1) (by rw [t7b]; (first | rw [t82b] | rw [t51b]); omega)]
                     exact zxe.trans (by omega))
                · intro h9
                  first
                  | (rw [tNf_1 (show tBd c (tNs c p_) (tNq c n p_) from w23.1)] at h9
                     omega)
                  | (rw [tNf_2 w23.1 t82 w97.1] at h9
                     omega)
                  | (have m_ := t179
                     rw [tNf_3 w23.1 (fun z => by first | exact t82 z.1 | exact t51 z.1) (by rw [t7b]; (first | rw [t82b] | rw [t51b]); omega)] at h9
                     omega)
                  | (have m_ := t187b
                     refine ⟨?_, zxe.trans (by rw [t7b]; (first | rw [t82b] | rw [t51b]); omega)⟩
                     rw [tNe_n (by first | exact t82 | exact t51)]
                     exact p23hv)
                  | (have m_ := t187
                     rw [tNf_3 w23.1 (fun z => by first | exact t82 z.1 | exact t51 z.1) (by rw [t7b]; (first | rw [t82b] | rw [t51b]); omega)] at h9
                     omega)
              · refine ⟨_, _, ⟨zW6i (by omega), zW6i (by omega)⟩, fun z186 c186 => ?_⟩
                refine And.intro c186.2.2 ⟨fun h187 => ?_, fun h187 => ?_⟩
                · have t187 : (1 : Int) ≤ 2 := (by decide)
                  have t187b : (1 : Int) ≤ 2 := (by decide)
                  refine And.intro (zDX hD 0 rfl) ⟨_, zW6i (by omega), ?_⟩
                  refine hQ _ _ _ ?_ ?_ (fun c j h0 => ((p92bbfr c j (by omega)).trans ((p23bbfr c j (by omega)).trans rfl))) (fun c j h0 => (zxcj h0 rfl))
                  · first
                    | (rw [tNf_1 (show tBd c (tNs c p_) (tNq c n p_) from w23.1)]
                       exact w23.2)
                    | (rw [tNf_2 w23.1 t82 w97.1]
                       exact w97.2)
                    | (have m_ := t179
                       rw [tNf_3 w23.1 (fun z => by first | exact t82 z.1 | exact t51 z.1) (by rw [t7b]; (first | rw [t82b] | rw [t51b]); omega)]
                       exact zxe.trans (by omega))
                    | (have m_ := t187b
                       rw [tNf_4 w23.1 (fun z => by first | exact t82 z.1 | exact t51 z.1) (by rw [t7b]; (first | rw [t82b] | rw [t51b]); omega)]
                       exact w23.2)
                    | (have m_ := t187
                       rw [tNf_3 w23.1 (fun z => by first | exact t82 z.1 | exact t51 z.1) (by rw [t7b]; (first | rw [t82b] | rw [t51b]); omega)]
                       exact zxe.trans (by omega))
                  · intro h9
                    first
                    | (rw [tNf_1 (show tBd c (tNs c p_) (tNq c n p_) from w23.1)] at h9
                       omega)
                    | (rw [tNf_2 w23.1 t82 w97.1] at h9
                       omega)
                    | (have m_ := t179
                       rw [tNf_3 w23.1 (fun z => by first | exact t82 z.1 | exact t51 z.1) (by rw [t7b]; (first | rw [t82b] | rw [t51b]); omega)] at h9
                       omega)
                    | (have m_ := t187b
                       refine ⟨?_, zxe.trans (by rw [t7b]; (first | rw [t82b] | rw [t51b]); omega)⟩
                       rw [tNe_n (by first | exact t82 | exact t51)]
                       exact p23hv)
                    | (have m_ := t187
                       rw [tNf_3 w23.1 (fun z => by first | exact t82 z.1 | exact t51 z.1) (by rw [t7b]; (first | rw [t82b] | rw [t51b]); omega)] at h9
                       omega)
                · have t187 : (1 : Int) ≤ 2 := (by decide)
                  refine And.intro (zDX hD 0 rfl) (Exists.intro _ (And.intro (zinl_ok (zT20_9 1)) (And.intro rfl ?_)))
                  refine And.intro (zDX hD 0 rfl) (zrd (v := (tDe c n (tNq c n p_ + 1) 6)) w97.2 ?_)
                  refine And.intro ⟨(by omega), (zRb rfl)⟩ ⟨fun h5_192 => ?_, (fun h5_192 => False.elim (by omega))⟩
                  refine And.intro (zDX hD 0 rfl) ⟨_, zW6i (by omega), ?_⟩
                  refine hQ _ _ _ ?_ ?_ (fun c j h0 => ((p92bbfr c j (by omega)).trans ((p23bbfr c j (by omega)).trans rfl))) (fun c j h0 => (zxcj h0 rfl))
                  · first
                    | (rw [tNf_1 (show tBd c (tNs c p_) (tNq c n p_) from w23.1)]
                       exact w23.2)
                    | (rw [tNf_2 w23.1 t82 w97.1]
                       exact w97.2)
                    | (have m_ := t179
                       rw [tNf_3 w23.1 (fun z => by first | exact t82 z.1 | exact t51 z.1) (by rw [t7b]; (first | rw [t82b] | rw [t51b]); omega)]
                       exact zxe.trans (by omega))
                    | (have m_ := t187b
                       rw [tNf_4 w23.1 (fun z => by first | exact t82 z.1 | exact t51 z.1) (by rw [t7b]; (first | rw [t82b] | rw [t51b]); omega)]
                       exact w23.2)
                    | (have m_ := t187
                       rw [tNf_3 w23.1 (fun z => by first | exact t82 z.1 | exact t51 z.1) (by rw [t7b]; (first | rw [t82b] | rw [t51b]); omega)]
                       exact zxe.trans (by omega))
                  · intro h9
                    first
                    | (rw [tNf_1 (show tBd c (tNs c p_) (tNq c n p_) from w23.1)] at h9
                       omega)
                    | (rw [tNf_2 w23.1 t82 w97.1] at h9
                       omega)
                    | (have m_ := t179
                       rw [tNf_3 w23.1 (fun z => by first | exact t82 z.1 | exact t51 z.1) (by rw [t7b]; (first | rw [t82b] | rw [t51b]); omega)] at h9
                       omega)
                    | (have m_ := t187b
                       refine ⟨?_, zxe.trans (by rw [t7b]; (first | rw [t82b] | rw [t51b]); omega)⟩
                       rw [tNe_n (by first | exact t82 | exact t51)]
                       exact p23hv)
                    | (have m_ := t187
                       rw [tNf_3 w23.1 (fun z => by first | exact t82 z.1 | exact t51 z.1) (by rw [t7b]; (first | rw [t82b] | rw [t51b]); omega)] at h9
                       omega)
      · refine And.intro (zDX hD 0 rfl) (zrd (v := (tDe c n (tNs c p_) 4)) w23.2 ?_)
        refine And.intro ⟨(by omega), (zRb rfl)⟩ ⟨fun h33 => ?_, (fun h33 => False.elim (by omega))⟩
        refine And.intro (by omega) ⟨fun h51 => ?_, fun h51 => ?_⟩
        · have t51 : ¬ tFr c (tNq c n p_) b_ := (fun w => by have w1 := w.1; omega)
          have t51b : tNu c n p_ b_ = tVl c (tNs c p_) (tNq c n p_ - tNs c p_) := (tNu_0 (by omega))
          refine And.intro (by omega) ⟨fun h63 => ?_, (fun h63 => False.elim (by omega))⟩
          refine And.intro ⟨(by omega), (by omega)⟩ ⟨fun h161 => ?_, (fun h161 => False.elim (by omega))⟩
          refine ⟨_, _, ⟨zW6i (zRL rfl), zW6i (by omega)⟩, fun z178 c178 => ?_⟩
          refine And.intro c178.2.2 ⟨fun h179 => ?_, fun h179 => ?_⟩
          · have t179 : (1 : Int) ≤ 2 := (by decide)
            refine And.intro (zDX hD 0 rfl) (Exists.intro _ (And.intro (zinl_ok (zT20_9 1)) (And.intro rfl ?_)))
            refine And.intro (zDX hD 0 rfl) (zrd (v := (tDe c n (tNs c p_) 4)) w23.2 ?_)
            refine And.intro ⟨(by omega), (zRb rfl)⟩ ⟨fun h5_192 => ?_, (fun h5_192 => False.elim (by omega))⟩
            refine And.intro (zDX hD 0 rfl) ⟨_, zW6i (zRL rfl), ?_⟩
            refine hQ _ _ _ ?_ ?_ (fun c j h0 => ((p23bbfr c j (by omega)).trans rfl)) (fun c j h0 => (zxcj h0 rfl))
            · first
              | (rw [tNf_1 (show tBd c (tNs c p_) (tNq c n p_) from w23.1)]
                 exact w23.2)
              | (rw [tNf_2 w23.1 t82 w97.1]
                 exact w97.2)
              | (have m_ := t179
                 rw [tNf_3 w23.1 (fun z => by first | exact t82 z.1 | exact t51 z.1) (by rw [t7b]; (first | rw [t82b] | rw [t51b]); omega)]
                 exact zxe.trans (by omega))
              | (have m_ := t187b
                 rw [tNf_4 w23.1 (fun z => by first | exact t82 z.1 | exact t51 z.1) (by rw [t7b]; (first | rw [t82b] | rw [t51b]); omega)]
                 exact w23.2)
              | (have m_ := t187
                 rw [tNf_3 w23.1 (fun z => by first | exact t82 z.1 | exact t51 z.1) (by rw [t7b]; (first | rw [t82b] | rw [t51b]); omega)]
                 exact zxe.trans (by omega))
            · intro h9
              first
              | (rw [tNf_1 (show tBd c (tNs c p_) (tNq c n p_) from w23.1)] at h9
                 omega)
              | (rw [tNf_2 w23.1 t82 w97.1] at h9
                 omega)
              | (have m_ := t179
                 rw [tNf_3 w23.1 (fun z => by first | exact t82 z.1 | exact t51 z.1) (by rw [t7b]; (first | rw [t82b] | rw [t51b]); omega)] at h9
                 omega)
              | (have m_ := t187b
                 refine ⟨?_, zxe.trans (by rw [t7b]; (first | rw [t82b] | rw [t51b]); omega)⟩
                 rw [tNe_n (by first | exact t82 | exact t51)]
                 exact p23hv)
              | (have m_ := t187
                 rw [tNf_3 w23.1 (fun z => by first | exact t82 z.1 | exact t51 z.1) (by rw [t7b]; (first | rw [t82b] | rw [t51b]); omega)] at h9
                 omega)
          · refine ⟨_, _, ⟨zW6i (zRL rfl), zW6i (by omega)⟩, fun z186 c186 => ?_⟩
            refine And.intro c186.2.2 ⟨fun h187 => ?_, fun h187 => ?_⟩
            · have t187 : (1 : Int) ≤ 2 := (by decide)
              have t187b : (1 : Int) ≤ 2 := (by decide)
              refine And.intro (zDX hD 0 rfl) ⟨_, zW6i (zRL rfl), ?_⟩
              refine hQ _ _ _ ?_ ?_ (fun c j h0 => ((p23bbfr c j (by omega)).trans rfl)) (fun c j h0 => (zxcj h0 rfl))
              · first
                | (rw [tNf_1 (show tBd c (tNs c p_) (tNq c n p_) from w23.1)]
                   exact w23.2)
                | (rw [tNf_2 w23.1 t82 w97.1]
                   exact w97.2)
                | (have m_ := t179
                   rw [tNf_3 w23.1 (fun z => by first | exact t82 z.1 | exact t51 z.1) (by rw [t7b]; (first | rw [t82b] | rw [t51b]); omega)]
                   exact zxe.trans (by omega))
                | (have m_ := t187b
                   rw [tNf_4 w23.1 (fun z => by first | exact t82 z.1 | exact t51 z.1) (by rw [t7b]; (first | rw [t82b] | rw [t51b]); omega)]
                   exact w23.2)
                | (have m_ := t187
                   rw [tNf_3 w23.1 (fun z => by first | exact t82 z.1 | exact t51 z.1) (by rw [t7b]; (first | rw [t82b] | rw [t51b]); omega)]
                   exact zxe.trans (by omega))
              · intro h9
                first
                | (rw [tNf_1 (show tBd c (tNs c p_) (tNq c n p_) from w23.1)] at h9
                   omega)
                | (rw [tNf_2 w23.1 t82 w97.1] at h9
                   omega)
                | (have m_ := t179
                   rw [tNf_3 w23.1 (fun z => by first | exact t82 z.1 | exact t51 z.1) (by rw [t7b]; (first | rw [t82b] | rw [t51b]); omega)] at h9
                   omega)
                | (have m_ := t187b
                   refine ⟨?_, zxe.trans (by rw [t7b]; (first | rw [t82b] | rw [t51b]); omega)⟩
                   rw [tNe_n (by first | exact t82 | exact t51)]
                   exact p23hv)
                | (have m_ := t187
                   rw [tNf_3 w23.1 (fun z => by first | exact t82 z.1 | exact t51 z.1) (by rw [t7b]; (first | rw [t82b] | rw [t51b]); omega)] at h9
                   omega)
            · have t187 : (1 : Int) ≤ 2 := (by decide)
              refine And.intro (zDX hD 0 rfl) (Exists.intro _ (And.intro (zinl_ok (zT20_9 1)) (And.intro rfl ?_)))
              refine And.intro (zDX hD 0 rfl) (zrd (v := (tDe c n (tNs c p_) 4)) w23.2 ?_)
              refine And.intro ⟨(by omega), (zRb rfl)⟩ ⟨fun h5_192 => ?_, (fun h5_192 => False.elim (by omega))⟩
              refine And.intro (zDX hD 0 rfl) ⟨_, zW6i (zRL rfl), ?_⟩
              refine hQ _ _ _ ?_ ?_ (fun c j h0 => ((p23bbfr c j (by omega)).trans rfl)) (fun c j h0 => (zxcj h0 rfl))
              · first
                | (rw [tNf_1 (show tBd c (tNs c p_) (tNq c n p_) from w23.1)]
                   exact w23.2)
                | (rw [tNf_2 w23.1 t82 w97.1]
                   exact w97.2)
                | (have m_ := t179
                   rw [tNf_3 w23.1 (fun z => by first | exact t82 z.1 | exact t51 z.1) (by rw [t7b]; (first | rw [t82b] | rw [t51b]); omega)]
                   exact zxe.trans (by omega))
                | (have m_ := t187b
                   rw [tNf_4 w23.1 (fun z => by first | exact t82 z.1 | exact t51 z.1) (by rw [t7b]; (first | rw [t82b] | rw [t51b]); omega)]
                   exact w23.2)
                | (have m_ := t187
                   rw [tNf_3 w23.1 (fun z => by first | exact t82 z.1 | exact t51 z.1) (by rw [t7b]; (first | rw [t82b] | rw [t51b]); omega)]
                   exact zxe.trans (by omega))
              · intro h9
                first
                | (rw [tNf_1 (show tBd c (tNs c p_) (tNq c n p_) from w23.1)] at h9
                   omega)
                | (rw [tNf_2 w23.1 t82 w97.1] at h9
                   omega)
                | (have m_ := t179
                   rw [tNf_3 w23.1 (fun z => by first | exact t82 z.1 | exact t51 z.1) (by rw [t7b]; (first | rw [t82b] | rw [t51b]); omega)] at h9
                   omega)
                | (have m_ := t187b
                   refine ⟨?_, zxe.trans (by rw [t7b]; (first | rw [t82b] | rw [t51b]); omega)⟩
                   rw [tNe_n (by first | exact t82 | exact t51)]
                   exact p23hv)
                | (have m_ := t187
                   rw [tNf_3 w23.1 (fun z => by first | exact t82 z.1 | exact t51 z.1) (by rw [t7b]; (first | rw [t82b] | rw [t51b]); omega)] at h9
                   omega)
        · have t51 : b_ = 1 := (by omega)
          refine And.intro (by omega) ⟨(fun h63 => False.elim (by omega)), fun h63 => ?_⟩
          refine And.intro (zDX hD 0 rfl) (zrd (v := (tDe c n (tNs c p_) 4)) w23.2 ?_)
          refine And.intro ⟨(by omega), (zRb rfl)⟩ ⟨fun h71 => ?_, (fun h71 => False.elim (by omega))⟩
          refine And.intro ⟨(by omega), (by omega)⟩ ⟨fun h161 => ?_, (fun h161 => False.elim (by omega))⟩
          refine ⟨_, _, ⟨zW6i (zRL rfl), zW6i (by omega)⟩, fun z178 c178 => ?_⟩
          refine And.intro c178.2.2 ⟨fun h179 => ?_, fun h179 => ?_⟩
          · have t179 : (1 : Int) ≤ 2 := (by decide)
            refine And.intro (zDX hD 0 rfl) (Exists.intro _ (And.intro (zinl_ok (zT20_9 1)) (And.intro rfl ?_)))
            refine And.intro (zDX hD 0 rfl) (zrd (v := (tDe c n (tNs c p_) 4)) w23.2 ?_)
            refine And.intro ⟨(by omega), (zRb rfl)⟩ ⟨fun h5_192 => ?_, (fun h5_192 => False.elim (by omega))⟩
            refine And.intro (zDX hD 0 rfl) ⟨_, zW6i (zRL rfl), ?_⟩
            refine hQ _ _ _ ?_ ?_ (fun c j h0 => ((p23bbfr c j (by omega)).trans rfl)) (fun c j h0 => (zxcj h0 rfl))
            · first
              | (rw [tNf_1 (show tBd c (tNs c p_) (tNq c n p_) from w23.1)]
                 exact w23.2)
              | (rw [tNf_2 w23.1 t82 w97.1]
                 exact w97.2)
              | (have m_ := t179
                 rw [tNf_3 w23.1 (fun z => by first | exact t82 z.1 | exact t51 z.1) (by rw [t7b]; (first | rw [t82b] | rw [t51b]); omega)]
                 exact zxe.trans (by omega))
              | (have m_ := t187b
                 rw [tNf_4 w23.1 (fun z => by first | exact t82 z.1 | exact t51 z.1) (by rw [t7b]; (first | rw [t82b] | rw [t51b]); omega)]
                 exact w23.2)
              | (have m_ := t187
                 rw [tNf_3 w23.1 (fun z => by first | exact t82 z.1 | exact t51 z.1) (by rw [t7b]; (first | rw [t82b] | rw [t51b]); omega)]
                 exact zxe.trans (by omega))
            · intro h9
              first
              | (rw [tNf_1 (show tBd c (tNs c p_) (tNq c n p_) from w23.1)] at h9
                 omega)
              | (rw [tNf_2 w23.1 t82 w97.1] at h9
                 omega)
              | (have m_ := t179
                 rw [tNf_3 w23.1 (fun z => by first | exact t82 z.1 | exact t51 z.1) (by rw [t7b]; (first | rw [t82b] | rw [t51b]); omega)] at h9
                 omega)
              | (have m_ := t187b
                 refine ⟨?_, zxe.trans (by rw [t7b]; (first | rw [t82b] | rw [t51b]); omega)⟩
                 rw [tNe_n (by first | exact t82 | exact t51)]
                 exact p23hv)
              | (have m_ := t187
                 rw [tNf_3 w23.1 (fun z => by first | exact t82 z.1 | exact t51 z.1) (by rw [t7b]; (first | rw [t82b] | rw [t51b]); omega)] at h9
                 omega)
          · refine ⟨_, _, ⟨zW6i (zRL rfl), zW6i (by omega)⟩, fun z186 c186 => ?_⟩
            refine And.intro c186.2.2 ⟨fun h187 => ?_, fun h187 => ?_⟩
            · have t187 : (1 : Int) ≤ 2 := (by decide)
              have t187b : (1 : Int) ≤ 2 := (by decide)
              refine And.intro (zDX hD 0 rfl) ⟨_, zW6i (zRL rfl), ?_⟩
              refine hQ _ _ _ ?_ ?_ (fun c j h0 => ((p23bbfr c j (by omega)).trans rfl)) (fun c j h0 => (zxcj h0 rfl))
              · first
                | (rw [tNf_1 (show tBd c (tNs c p_) (tNq c n p_) from w23.1)]
                   exact w23.2)
                | (rw [tNf_2 w23.1 t82 w97.1]
                   exact w97.2)
                | (have m_ := t179
                   rw [tNf_3 w23.1 (fun z => by first | exact t82 z.1 | exact t51 z.1) (by rw [t7b]; (first | rw [t82b] | rw [t51b]); omega)]
                   exact zxe.trans (by omega))
                | (have m_ := t187b
                   rw [tNf_4 w23.1 (fun z => by first | exact t82 z.1 | exact t51 z.1) (by rw [t7b]; (first | rw [t82b] | rw [t51b]); omega)]
                   exact w23.2)
                | (have m_ := t187
                   rw [tNf_3 w23.1 (fun z => by first | exact t82 z.1 | exact t51 z.1) (by rw [t7b]; (first | rw [t82b] | rw [t51b]); omega)]
                   exact zxe.trans (by omega))
              · intro h9
                first
                | (rw [tNf_1 (show tBd c (tNs c p_) (tNq c n p_) from w23.1)] at h9
                   omega)
                | (rw [tNf_2 w23.1 t82 w97.1] at h9
                   omega)
                | (have m_ := t179
                   rw [tNf_3 w23.1 (fun z => by first | exact t82 z.1 | exact t51 z.1) (by rw [t7b]; (first | rw [t82b] | rw [t51b]); omega)] at h9
                   omega)
                | (have m_ := t187b
                   refine ⟨?_, zxe.trans (by rw [t7b]; (first | rw [t82b] | rw [t51b]); omega)⟩
                   rw [tNe_n (by first | exact t82 | exact t51)]
                   exact p23hv)
                | (have m_ := t187
                   rw [tNf_3 w23.1 (fun z => by first | exact t82 z.1 | exact t51 z.1) (by rw [t7b]; (first | rw [t82b] | rw [t51b]); omega)] at h9
                   omega)
            · have t187 : (1 : Int) ≤ 2 := (by decide)
              refine And.intro (zDX hD 0 rfl) (Exists.intro _ (And.intro (zinl_ok (zT20_9 1)) (And.intro rfl ?_)))
              refine And.intro (zDX hD 0 rfl) (zrd (v := (tDe c n (tNs c p_) 4)) w23.2 ?_)
              refine And.intro ⟨(by omega), (zRb rfl)⟩ ⟨fun h5_192 => ?_, (fun h5_192 => False.elim (by omega))⟩
              refine And.intro (zDX hD 0 rfl) ⟨_, zW6i (zRL rfl), ?_⟩
              refine hQ _ _ _ ?_ ?_ (fun c j h0 => ((p23bbfr c j (by omega)).trans rfl)) (fun c j h0 => (zxcj h0 rfl))
              · first
                | (rw [tNf_1 (show tBd c (tNs c p_) (tNq c n p_) from w23.1)]
                   exact w23.2)
                | (rw [tNf_2 w23.1 t82 w97.1]
                   exact w97.2)
                | (have m_ := t179
                   rw [tNf_3 w23.1 (fun z => by first | exact t82 z.1 | exact t51 z.1) (by rw [t7b]; (first | rw [t82b] | rw [t51b]); omega)]
                   exact zxe.trans (by omega))
                | (have m_ := t187b
                   rw [tNf_4 w23.1 (fun z => by first | exact t82 z.1 | exact t51 z.1) (by rw [t7b]; (first | rw [t82b] | rw [t51b]); omega)]
                   exact w23.2)
                | (have m_ := t187
                   rw [tNf_3 w23.1 (fun z => by first | exact t82 z.1 | exact t51 z.1) (by rw [t7b]; (first | rw [t82b] | rw [t51b]); omega)]
                   exact zxe.trans (by omega))
              · intro h9
                first
                | (rw [tNf_1 (show tBd c (tNs c p_) (tNq c n p_) from w23.1)] at h9
                   omega)
                | (rw [tNf_2 w23.1 t82 w97.1] at h9
                   omega)
                | (have m_ := t179
                   rw [tNf_3 w23.1 (fun z => by first | exact t82 z.1 | exact t51 z.1) (by rw [t7b]; (first | rw [t82b] | rw [t51b]); omega)] at h9
                   omega)
                | (have m_ := t187b
                   refine ⟨?_, zxe.trans (by rw [t7b]; (first | rw [t82b] | rw [t51b]); omega)⟩
                   rw [tNe_n (by first | exact t82 | exact t51)]
                   exact p23hv)
                | (have m_ := t187
                   rw [tNf_3 w23.1 (fun z => by first | exact t82 z.1 | exact t51 z.1) (by rw [t7b]; (first | rw [t82b] | rw [t51b]); omega)] at h9
                   omega)
    · have t7 : tNs c p_ = p_ + 1 := (tNs_y (by omega))
      have t7b : tNv c n p_ b_ = -(tNu c n p_ b_) := (tNv_y (by omega))
      refine And.intro (zDX hD 0 rfl) ⟨_, sn_V_dig.up (by decide), ?_⟩
      refine ⟨k, c, n, ((p + 1) : Int), (tNs c p_), (4 : Int), 4, rfl, hD, (by first | exact (zRM_fr hX (fun c j h => rfl)) | (clear hQ; grind [xu])), (by first | exact hc | (clear hQ; grind [xu])), (by omega), (by omega), (Eq.trans (b := ((-1) : Int)) hf0 (by omega)), ?_⟩
      intro v23o I23o p23hv p23bhf p23bbfr
      have g23 : v23o = tNq c n p_ := p23hv
      have g23b : tNs c p_ ≤ tNq c n p_ ∧ tNq c n p_ ≤ tNs c p_ + 4 := (by have w := tDe_sp (p := tNs c p_) (m := 4) hc; exact ⟨w.1, w.2.1⟩)
      rcases p23bhf with w23 | w23
      · refine And.intro (zDX hD 0 rfl) (zrd (v := (-1)) w23.2 ?_)
        refine And.intro ⟨(zRb rfl), (zRb rfl)⟩ (zbf rfl ?_)
        refine And.intro (zDX hD 0 rfl) ⟨_, sn_V_val.up (by decide), ?_⟩
        refine ⟨k, c, n, ((p + 1) : Int), (tNs c p_), (v23o : Int), (tNq c n p_), rfl, hD, (by first | exact (zRM_fr hX (fun c j h => ((p23bbfr c j (by omega)).trans rfl))) | (clear hQ; grind [xu])), (by first | exact hc | (clear hQ; grind [xu])), (by omega), ⟨by omega, by omega, by omega, (tDe_sp hc).2.2.2⟩, (tDe_sp hc).2.2.1, ?_⟩
        intro v41o p41hv p41bhv2
        have g41 : v41o = tVl c (tNs c p_) (tNq c n p_ - tNs c p_) := p41hv
        have g41b : 0 ≤ v41o ∧ v41o ≤ 9999 := (by have w := tDe_sp (p := tNs c p_) (m := 4) hc; have w2 := tVl_b (c := c) (p := tNs c p_) (n := tNq c n p_ - tNs c p_) (fun i h1 h2 => w.2.2.1 i h1 (by show i < tNq c n p_; omega)) (Nat.le_refl _); omega)
        refine And.intro (by omega) ⟨fun h51 => ?_, fun h51 => ?_⟩
        · have t51 : ¬ tFr c (tNq c n p_) b_ := (fun w => by have w1 := w.1; omega)
          have t51b : tNu c n p_ b_ = tVl c (tNs c p_) (tNq c n p_ - tNs c p_) := (tNu_0 (by omega))
          refine And.intro (by omega) ⟨fun h63 => ?_, (fun h63 => False.elim (by omega))⟩
          refine And.intro ⟨(by omega), (by omega)⟩ ⟨(fun h161 => False.elim (by omega)), fun h161 => ?_⟩
          refine ⟨_, _, ⟨zW6i (by omega), zW6i (by omega)⟩, fun z178 c178 => ?_⟩
          refine And.intro c178.2.2 ⟨fun h179 => ?_, fun h179 => ?_⟩
          · have t179 : (1 : Int) ≤ 2 := (by decide)
            refine And.intro (zDX hD 0 rfl) (Exists.intro _ (And.intro (zinl_ok (zT20_9 1)) (And.intro rfl ?_)))
            refine And.intro (zDX hD 0 rfl) (zrd (v := (-1)) w23.2 ?_)
            refine And.intro ⟨(zRb rfl), (zRb rfl)⟩ (zbf rfl ?_)
            refine And.intro (zDX hD 0 rfl) ⟨_, (zWi (by omega)), ?_⟩
            refine And.intro (zDX hD 0 rfl) ⟨_, zW6i (by omega), ?_⟩
            refine hQ _ _ _ ?_ ?_ (fun c j h0 => (zxcj h0 ((p23bbfr c j (by omega)).trans rfl))) (fun c j h0 => (zxcj h0 rfl))
            · first
              | (rw [tNf_1 (show tBd c (tNs c p_) (tNq c n p_) from w23.1)]
                 exact w23.2)
              | (rw [tNf_2 w23.1 t82 w97.1]
                 exact w97.2)
              | (have m_ := t179
                 rw [tNf_3 w23.1 (fun z => by first | exact t82 z.1 | exact t51 z.1) (by rw [t7b]; (first | rw [t82b] | rw [t51b]); omega)]
                 exact zxe.trans (by omega))
              | (have m_ := t187b
                 rw [tNf_4 w23.1 (fun z => by first | exact t82 z.1 | exact t51 z.1) (by rw [t7b]; (first | rw [t82b] | rw [t51b]); omega)]
                 exact w23.2)
              | (have m_ := t187
                 rw [tNf_3 w23.1 (fun z => by first | exact t82 z.1 | exact t51 z.1) (by rw [t7b]; (first | rw [t82b] | rw [t51b]); omega)]
                 exact zxe.trans (by omega))
            · intro h9
              first
              | (rw [tNf_1 (show tBd c (tNs c p_) (tNq c n p_) from w23.1)] at h9
                 omega)
              | (rw [tNf_2 w23.1 t82 w97.1] at h9
                 omega)
              | (have m_ := t179
                 rw [tNf_3 w23.1 (fun z => by first | exact t82 z.1 | exact t51 z.1) (by rw [t7b]; (first | rw [t82b] | rw [t51b]); omega)] at h9
                 omega)
              | (have m_ := t187b
                 refine ⟨?_, zxe.trans (by rw [t7b]; (first | rw [t82b] | rw [t51b]); omega)⟩
                 rw [tNe_n (by first | exact t82 | exact t51)]
                 exact p23hv)
              | (have m_ := t187
                 rw [tNf_3 w23.1 (fun z => by first | exact t82 z.1 | exact t51 z.1) (by rw [t7b]; (first | rw [t82b] | rw [t51b]); omega)] at h9
                 omega)
          · refine ⟨_, _, ⟨zW6i (by omega), zW6i (by omega)⟩, fun z186 c186 => ?_⟩
            refine And.intro c186.2.2 ⟨fun h187 => ?_, fun h187 => ?_⟩
            · have t187 : (1 : Int) ≤ 2 := (by decide)
              have t187b : (1 : Int) ≤ 2 := (by decide)
              refine And.intro (zDX hD 0 rfl) ⟨_, zW6i (by omega), ?_⟩
              refine hQ _ _ _ ?_ ?_ (fun c j h0 => ((p23bbfr c j (by omega)).trans rfl)) (fun c j h0 => (zxcj h0 rfl))
              · first
                | (rw [tNf_1 (show tBd c (tNs c p_) (tNq c n p_) from w23.1)]
                   exact w23.2)
                | (rw [tNf_2 w23.1 t82 w97.1]
                   exact w97.2)
                | (have m_ := t179
                   rw [tNf_3 w23.1 (fun z => by first | exact t82 z.1 | exact t51 z.1) (by rw [t7b]; (first | rw [t82b] | rw [t51b]); omega)]
                   exact zxe.trans (by omega))
                | (have m_ := t187b
                   rw [tNf_4 w23.1 (fun z => by first | exact t82 z.1 | exact t51 z.1) (by rw [t7b]; (first | rw [t82b] | rw [t51b]); omega)]
                   exact w23.2)
                | (have m_ := t187
                   rw [tNf_3 w23.1 (fun z => by first | exact t82 z.1 | exact t51 z.1) (by rw [t7b]; (first | rw [t82b] | rw [t51b]); omega)]
                   exact zxe.trans (by omega))
              · intro h9
                first
                | (rw [tNf_1 (show tBd c (tNs c p_) (tNq c n p_) from w23.1)] at h9
                   omega)
                | (rw [tNf_2 w23.1 t82 w97.1] at h9
                   omega)
                | (have m_ := t179
                   rw [tNf_3 w23.1 (fun z => by first | exact t82 z.1 | exact t51 z.1) (by rw [t7b]; (first | rw [t82b] | rw [t51b]); omega)] at h9
                   omega)
                | (have m_ := t187b
                   refine ⟨?_, zxe.trans (by rw [t7b]; (first | rw [t82b] | rw [t51b]); omega)⟩
                   rw [tNe_n (by first | exact t82 | exact t51)]
                   exact p23hv)
                | (have m_ := t187
                   rw [tNf_3 w23.1 (fun z => by first | exact t82 z.1 | exact t51 z.1) (by rw [t7b]; (first | rw [t82b] | rw [t51b]); omega)] at h9
                   omega)
            · have t187 : (1 : Int) ≤ 2 := (by decide)
              refine And.intro (zDX hD 0 rfl) (Exists.intro _ (And.intro (zinl_ok (zT20_9 1)) (And.intro rfl ?_)))
              refine And.intro (zDX hD 0 rfl) (zrd (v := (-1)) w23.2 ?_)
              refine And.intro ⟨(zRb rfl), (zRb rfl)⟩ (zbf rfl ?_)
              refine And.intro (zDX hD 0 rfl) ⟨_, (zWi (by omega)), ?_⟩
              refine And.intro (zDX hD 0 rfl) ⟨_, zW6i (by omega), ?_⟩
              refine hQ _ _ _ ?_ ?_ (fun c j h0 => (zxcj h0 ((p23bbfr c j (by omega)).trans rfl))) (fun c j h0 => (zxcj h0 rfl))
              · first
                | (rw [tNf_1 (show tBd c (tNs c p_) (tNq c n p_) from w23.1)]
                   exact w23.2)
                | (rw [tNf_2 w23.1 t82 w97.1]
                   exact w97.2)
                | (have m_ := t179
                   rw [tNf_3 w23.1 (fun z => by first | exact t82 z.1 | exact t51 z.1) (by rw [t7b]; (first | rw [t82b] | rw [t51b]); omega)]
                   exact zxe.trans (by omega))
                | (have m_ := t187b
                   rw [tNf_4 w23.1 (fun z => by first | exact t82 z.1 | exact t51 z.1) (by rw [t7b]; (first | rw [t82b] | rw [t51b]); omega)]
                   exact w23.2)
                | (have m_ := t187
                   rw [tNf_3 w23.1 (fun z => by first | exact t82 z.1 | exact t51 z.1) (by rw [t7b]; (first | rw [t82b] | rw [t51b]); omega)]
                   exact zxe.trans (by omega))
              · intro h9
                first
                | (rw [tNf_1 (show tBd c (tNs c p_) (tNq c n p_) from w23.1)] at h9
                   omega)
                | (rw [tNf_2 w23.1 t82 w97.1] at h9
                   omega)
                | (have m_ := t179
                   rw [tNf_3 w23.1 (fun z => by first | exact t82 z.1 | exact t51 z.1) (by rw [t7b]; (first | rw [t82b] | rw [t51b]); omega)] at h9
                   omega)
                | (have m_ := t187b
                   refine ⟨?_, zxe.trans (by rw [t7b]; (first | rw [t82b] | rw [t51b]); omega)⟩
                   rw [tNe_n (by first | exact t82 | exact t51)]
                   exact p23hv)
                | (have m_ := t187
                   rw [tNf_3 w23.1 (fun z => by first | exact t82 z.1 | exact t51 z.1) (by rw [t7b]; (first | rw [t82b] | rw [t51b]); omega)] at h9
                   omega)
        · have t51 : b_ = 1 := (by omega)
          refine And.intro (by omega) ⟨(fun h63 => False.elim (by omega)), fun h63 => ?_⟩
          refine And.intro (zDX hD 0 rfl) (zrd (v := (-1)) w23.2 ?_)
          refine And.intro ⟨(zRb rfl), (zRb rfl)⟩ (zbf rfl ?_)
          refine And.intro (zDX hD 0 rfl) ⟨_, sn_V_c.up (by decide), ?_⟩
          refine ⟨k, c, n, (v23o : Int), (tNq c n p_), rfl, hD, (by first | exact (zRM_fr hX (fun c j h => ((p23bbfr c j (by omega)).trans rfl))) | (clear hQ; grind [xu])), (by first | exact hc | (clear hQ; grind [xu])), (by omega), ?_⟩
          intro v77o p77hv p77bhv2
          refine And.intro ⟨(by omega), (zRb rfl)⟩ ⟨fun h82 => ?_, fun h82 => ?_⟩
          · have t82 : ¬ tFr c (tNq c n p_) b_ := (fun w => by have w2 := w.2; omega)
            have t82b : tNu c n p_ b_ = 1000000 * tVl c (tNs c p_) (tNq c n p_ - tNs c p_) := (tNu_n t51 t82)
            refine And.intro ⟨(by omega), (by omega)⟩ ⟨(fun h161 => False.elim (by omega)), fun h161 => ?_⟩
            refine ⟨_, _, ⟨zW6i (by omega), zW6i (by omega)⟩, fun z178 c178 => ?_⟩
            refine And.intro c178.2.2 ⟨fun h179 => ?_, fun h179 => ?_⟩
            · have t179 : (1 : Int) ≤ 2 := (by decide)
              refine And.intro (zDX hD 0 rfl) (Exists.intro _ (And.intro (zinl_ok (zT20_9 1)) (And.intro rfl ?_)))
              refine And.intro (zDX hD 0 rfl) (zrd (v := (-1)) w23.2 ?_)
              refine And.intro ⟨(zRb rfl), (zRb rfl)⟩ (zbf rfl ?_)
              refine And.intro (zDX hD 0 rfl) ⟨_, (zWi (by omega)), ?_⟩
              refine And.intro (zDX hD 0 rfl) ⟨_, zW6i (by omega), ?_⟩
              refine hQ _ _ _ ?_ ?_ (fun c j h0 => (zxcj h0 ((p23bbfr c j (by omega)).trans rfl))) (fun c j h0 => (zxcj h0 rfl))
              · first
                | (rw [tNf_1 (show tBd c (tNs c p_) (tNq c n p_) from w23.1)]
                   exact w23.2)
                | (rw [tNf_2 w23.1 t82 w97.1]
                   exact w97.2)
                | (have m_ := t179
                   rw [tNf_3 w23.1 (fun z => by first | exact t82 z.1 | exact t51 z.1) (by rw [t7b]; (first | rw [t82b] | rw [t51b]); omega)]
                   exact zxe.trans (by omega))
                | (have m_ := t187b
                   rw [tNf_4 w23.1 (fun z => by first | exact t82 z.1 | exact t51 z.1) (by rw [t7b]; (first | rw [t82b] | rw [t51b]); omega)]
                   exact w23.2)
                | (have m_ := t187
                   rw [tNf_3 w23.1 (fun z => by first | exact t82 z.1 | exact t51 z.1) (by rw [t7b]; (first | rw [t82b] | rw [t51b]); omega)]
                   exact zxe.trans (by omega))
              · intro h9
                first
                | (rw [tNf_1 (show tBd c (tNs c p_) (tNq c n p_) from w23.1)] at h9
                   omega)
                | (rw [tNf_2 w23.1 t82 w97.1] at h9
                   omega)
                | (have m_ := t179
                   rw [tNf_3 w23.1 (fun z => by first | exact t82 z.1 | exact t51 z.1) (by rw [t7b]; (first | rw [t82b] | rw [t51b]); omega)] at h9
                   omega)
                | (have m_ := t187b
                   refine ⟨?_, zxe.trans (by rw [t7b]; (first | rw [t82b] | rw [t51b]); omega)⟩
                   rw [tNe_n (by first | exact t82 | exact t51)]
                   exact p23hv)
                | (have m_ := t187
                   rw [tNf_3 w23.1 (fun z => by first | exact t82 z.1 | exact t51 z.1) (by rw [t7b]; (first | rw [t82b] | rw [t51b]); omega)] at h9
                   omega)
            · refine ⟨_, _, ⟨zW6i (by omega), zW6i (by omega)⟩, fun z186 c186 => ?_⟩
              refine And.intro c186.2.2 ⟨fun h187 => ?_, fun h187 => ?_⟩
              · have t187 : (1 : Int) ≤ 2 := (by decide)
                have t187b : (1 : Int) ≤ 2 := (by decide)
                refine And.intro (zDX hD 0 rfl) ⟨_, zW6i (by omega), ?_⟩
                refine hQ _ _ _ ?_ ?_ (fun c j h0 => ((p23bbfr c j (by omega)).trans rfl)) (fun c j h0 => (zxcj h0 rfl))
                · first
                  | (rw [tNf_1 (show tBd c (tNs c p_) (tNq c n p_) from w23.1)]
                     exact w23.2)
                  | (rw [tNf_2 w23.1 t82 w97.1]
                     exact w97.2)
                  | (have m_ := t179
                     rw [tNf_3 w23.1 (fun z => by first | exact t82 z.1 | exact t51 z.1) (by rw [t7b]; (first | rw [t82b] | rw [t51b]); omega)]
                     exact zxe.trans (by omega))
                  | (have m_ := t187b
                     rw [tNf_4 w23.1 (fun z => by first | exact t82 z.1 | exact t51 z.1) (by rw [t7b]; (first | rw [t82b] | rw [t51b]); omega)]
                     exact w23.2)
                  | (have m_ := t187
                     rw [tNf_3 w23.1 (fun z => by first | exact t82 z.1 | exact t51 z.1) (by rw [t7b]; (first | rw [t82b] | rw [t51b]); omega)]
                     exact zxe.trans (by omega))
                · intro h9
                  first
                  | (rw [tNf_1 (show tBd c (tNs c p_) (tNq c n p_) from w23.1)] at h9
                     omega)
                  | (rw [tNf_2 w23.1 t82 w97.1] at h9
                     omega)
                  | (have m_ := t179
                     rw [tNf_3 w23.1 (fun z => by first | exact t82 z.1 | exact t51 z.1) (by rw [t7b]; (first | rw [t82b] | rw [t51b]); omega)] at h9
                     omega)
                  | (have m_ := t187b
                     refine ⟨?_, zxe.trans (by rw [t7b]; (first | rw [t82b] | rw [t51b]); omega)⟩
                     rw [tNe_n (by first | exact t82 | exact t51)]
                     exact p23hv)
                  | (have m_ := t187
                     rw [tNf_3 w23.1 (fun z => by first | exact t82 z.1 | exact t51 z.1) (by rw [t7b]; (first | rw [t82b] | rw [t51b]); omega)] at h9
                     omega)
              · have t187 : (1 : Int) ≤ 2 := (by decide)
                refine And.intro (zDX hD 0 rfl) (Exists.intro _ (And.intro (zinl_ok (zT20_9 1)) (And.intro rfl ?_)))
                refine And.intro (zDX hD 0 rfl) (zrd (v := (-1)) w23.2 ?_)
                refine And.intro ⟨(zRb rfl), (zRb rfl)⟩ (zbf rfl ?_)
                refine And.intro (zDX hD 0 rfl) ⟨_, (zWi (by omega)), ?_⟩
                refine And.intro (zDX hD 0 rfl) ⟨_, zW6i (by omega), ?_⟩
                refine hQ _ _ _ ?_ ?_ (fun c j h0 => (zxcj h0 ((p23bbfr c j (by omega)).trans rfl))) (fun c j h0 => (zxcj h0 rfl))
                · first
                  | (rw [tNf_1 (show tBd c (tNs c p_) (tNq c n p_) from w23.1)]
                     exact w23.2)
                  | (rw [tNf_2 w23.1 t82 w97.1]
                     exact w97.2)
                  | (have m_ := t179
                     rw [tNf_3 w23.1 (fun z => by first | exact t82 z.1 | exact t51 z.1) (by rw [t7b]; (first | rw [t82b] | rw [t51b]); omega)]
                     exact zxe.trans (by omega))
                  | (have m_ := t187b
                     rw [tNf_4 w23.1 (fun z => by first | exact t82 z.1 | exact t51 z.1) (by rw [t7b]; (first | rw [t82b] | rw [t51b]); omega)]
                     exact w23.2)
                  | (have m_ := t187
                     rw [tNf_3 w23.1 (fun z => by first | exact t82 z.1 | exact t51 z.1) (by rw [t7b]; (first | rw [t82b] | rw [t51b]); omega)]
                     exact zxe.trans (by omega))
                · intro h9
                  first
                  | (rw [tNf_1 (show tBd c (tNs c p_) (tNq c n p_) from w23.1)] at h9
                     omega)
                  | (rw [tNf_2 w23.1 t82 w97.1] at h9
                     omega)
                  | (have m_ := t179
                     rw [tNf_3 w23.1 (fun z => by first | exact t82 z.1 | exact t51 z.1) (by rw [t7b]; (first | rw [t82b] | rw [t51b]); omega)] at h9
                     omega)
                  | (have m_ := t187b
                     refine ⟨?_, zxe.trans (by rw [t7b]; (first | rw [t82b] | rw [t51b]); omega)⟩
                     rw [tNe_n (by first | exact t82 | exact t51)]
                     exact p23hv)
                  | (have m_ := t187
                     rw [tNf_3 w23.1 (fun z => by first | exact t82 z.1 | exact t51 z.1) (by rw [t7b]; (first | rw [t82b] | rw [t51b]); omega)] at h9
                     omega)
          · have t82 : tFr c (tNq c n p_) b_ := ⟨t51, by omega⟩
            refine And.intro (zDX hD 0 rfl) ⟨_, sn_V_dig.up (by decide), ?_⟩
            refine ⟨k, c, n, ((v23o + 1) : Int), (tNq c n p_ + 1), (6 : Int), 6, rfl, hD, (by first | exact (zRM_fr hX (fun c j h => ((p23bbfr c j (by omega)).trans rfl))) | (clear hQ; grind [xu])), (by first | exact hc | (clear hQ; grind [xu])), (by omega), (by omega), (Eq.trans (b := ((-1) : Int)) w23.2 (by omega)), ?_⟩
            intro v92o I92o p92hv p92bhf p92bbfr
            have g92 : v92o = tNr c n p_ := p92hv
            have g92b : tNq c n p_ + 1 ≤ tNr c n p_ ∧ tNr c n p_ ≤ tNq c n p_ + 7 := (by have w := tDe_sp (p := tNq c n p_ + 1) (m := 6) hc; exact ⟨w.1, w.2.1⟩)
            rcases p92bhf with w97 | w97
            · refine And.intro (zDX hD 0 rfl) (zrd (v := (-1)) w97.2 ?_)
              refine And.intro ⟨(zRb rfl), (zRb rfl)⟩ (zbf rfl ?_)
              refine And.intro (zDX hD 0 rfl) ⟨_, sn_V_val.up (by decide), ?_⟩
              refine ⟨k, c, n, ((v23o + 1) : Int), (tNq c n p_ + 1), (v92o : Int), (tNr c n p_), rfl, hD, (by first | exact (zRM_fr hX (fun c j h => ((p92bbfr c j (by omega)).trans ((p23bbfr c j (by omega)).trans rfl)))) | (clear hQ; grind [xu])), (by first | exact hc | (clear hQ; grind [xu])), (by omega), ⟨by omega, by omega, by omega, (tDe_sp hc).2.2.2⟩, (tDe_sp hc).2.2.1, ?_⟩
              intro v112o p112hv p112bhv2
              have g112 : v112o = tVl c (tNq c n p_ + 1) (tNr c n p_ - (tNq c n p_ + 1)) := p112hv
              refine ⟨((7 - ((tNr c n p_ - (tNq c n p_ + 1)) : Nat)), 0, 0), [some (zvr (k)), some (zvi (p_)), none, some (zvl (lo)), none, some (zvl (hi)), none, some (zvi ((p + 1))), some (zvi (v23o)), some (zvl ((1000000 * v41o))), none, some (zvi (v92o)), some (zvl (v112o)), none, some (zvi (((tNr c n p_ - (tNq c n p_ + 1)) : Nat)))], ⟨rfl, (congrArg (fun z => some (zvi z)) (by omega)), rfl, rfl, rfl, rfl, rfl, rfl, rfl, (congrArg (fun z => some (zvi z)) (by omega)), rfl⟩, (tNr c n p_ - (tNq c n p_ + 1)), (p + 1), v23o, v92o, (1000000 * v41o), v112o, rfl, rfl, rfl, rfl, rfl, rfl, (by omega), (by first | exact Or.inl ⟨by omega, by omega⟩ | exact Or.inr ⟨by omega, by omega⟩), (by omega), t51, t82, w23.1, w97.1, (by omega), (by omega), (by rw [Nat.sub_self, ← g112]; show _ = 1 * _; omega), (by omega), w97.2, (fun c j h0 => ((p92bbfr c j (by omega)).trans ((p23bbfr c j (by omega)).trans rfl)))⟩
            · refine And.intro (zDX hD 0 rfl) (zrd (v := (tDe c n (tNq c n p_ + 1) 6)) w97.2 ?_)
              refine And.intro ⟨(by omega), (zRb rfl)⟩ ⟨fun h102 => ?_, (fun h102 => False.elim (by omega))⟩
              refine And.intro ⟨(by omega), (by omega)⟩ ⟨(fun h161 => False.elim (by omega)), fun h161 => ?_⟩
              refine ⟨_, _, ⟨zW6i (by omega), zW6i (by omega)⟩, fun z178 c178 => ?_⟩
              refine And.intro c178.2.2 ⟨fun h179 => ?_, fun h179 => ?_⟩
              · have t179 : (1 : Int) ≤ 2 := (by decide)
                refine And.intro (zDX hD 0 rfl) (Exists.intro _ (And.intro (zinl_ok (zT20_9 1)) (And.intro rfl ?_)))
                refine And.intro (zDX hD 0 rfl) (zrd (v := (tDe c n (tNq c n p_ + 1) 6)) w97.2 ?_)
                refine And.intro ⟨(by omega), (zRb rfl)⟩ ⟨fun h5_192 => ?_, (fun h5_192 => False.elim (by omega))⟩
                refine And.intro (zDX hD 0 rfl) ⟨_, zW6i (by omega), ?_⟩
                refine hQ _ _ _ ?_ ?_ (fun c j h0 => ((p92bbfr c j (by omega)).trans ((p23bbfr c j (by omega)).trans rfl))) (fun c j h0 => (zxcj h0 rfl))
                · first
                  | (rw [tNf_1 (show tBd c (tNs c p_) (tNq c n p_) from w23.1)]
                     exact w23.2)
                  | (rw [tNf_2 w23.1 t82 w97.1]
                     exact w97.2)
                  | (have m_ := t179
                     rw [tNf_3 w23.1 (fun z => by first | exact t82 z.1 | exact t51 z.1) (by rw [t7b]; (first | rw [t82b] | rw [t51b]); omega)]
                     exact zxe.trans (by omega))
                  | (have m_ := t187b
                     rw [tNf_4 w23.1 (fun z => by first | exact t82 z.1 | exact t51 z.1) (by rw [t7b]; (first | rw [t82b] | rw [t51b]); omega)]
                     exact w23.2)
                  | (have m_ := t187
                     rw [tNf_3 w23.1 (fun z => by first | exact t82 z.1 | exact t51 z.1) (by rw [t7b]; (first | rw [t82b] | rw [t51b]); omega)]
                     exact zxe.trans (by omega))
                · intro h9
                  first
                  | (rw [tNf_1 (show tBd c (tNs c p_) (tNq c n p_) from w23.1)] at h9
                     omega)
                  | (rw [tNf_2 w23.1 t82 w97.1] at h9
                     omega)
                  | (have m_ := t179
                     rw [tNf_3 w23.1 (fun z => by first | exact t82 z.1 | exact t51 z.1) (by rw [t7b]; (first | rw [t82b] | rw [t51b]); omega)] at h9
                     omega)
                  | (have m_ := t187b
                     refine ⟨?_, zxe.trans (by rw [t7b]; (first | rw [t82b] | rw [t51b]); omega)⟩
                     rw [tNe_n (by first | exact t82 | exact t51)]
                     exact p23hv)
                  | (have m_ := t187
                     rw [tNf_3 w23.1 (fun z => by first | exact t82 z.1 | exact t51 z.1) (by rw [t7b]; (first | rw [t82b] | rw [t51b]); omega)] at h9
                     omega)
              · refine ⟨_, _, ⟨zW6i (by omega), zW6i (by omega)⟩, fun z186 c186 => ?_⟩
                refine And.intro c186.2.2 ⟨fun h187 => ?_, fun h187 => ?_⟩
                · have t187 : (1 : Int) ≤ 2 := (by decide)
                  have t187b : (1 : Int) ≤ 2 := (by decide)
                  refine And.intro (zDX hD 0 rfl) ⟨_, zW6i (by omega), ?_⟩
                  refine hQ _ _ _ ?_ ?_ (fun c j h0 => ((p92bbfr c j (by omega)).trans ((p23bbfr c j (by omega)).trans rfl))) (fun c j h0 => (zxcj h0 rfl))
                  · first
                    | (rw [tNf_1 (show tBd c (tNs c p_) (tNq c n p_) from w23.1)]
                       exact w23.2)
                    | (rw [tNf_2 w23.1 t82 w97.1]
                       exact w97.2)
                    | (have m_ := t179
                       rw [tNf_3 w23.1 (fun z => by first | exact t82 z.1 | exact t51 z.1) (by rw [t7b]; (first | rw [t82b] | rw [t51b]); omega)]
                       exact zxe.trans (by omega))
                    | (have m_ := t187b
                       rw [tNf_4 w23.1 (fun z => by first | exact t82 z.1 | exact t51 z.1) (by rw [t7b]; (first | rw [t82b] | rw [t51b]); omega)]
                       exact w23.2)
                    | (have m_ := t187
                       rw [tNf_3 w23.1 (fun z => by first | exact t82 z.1 | exact t51 z.1) (by rw [t7b]; (first | rw [t82b] | rw [t51b]); omega)]
                       exact zxe.trans (by omega))
                  · intro h9
                    first
                    | (rw [tNf_1 (show tBd c (tNs c p_) (tNq c n p_) from w23.1)] at h9
                       omega)
                    | (rw [tNf_2 w23.1 t82 w97.1] at h9
                       omega)
                    | (have m_ := t179
                       rw [tNf_3 w23.1 (fun z => by first | exact t82 z.1 | exact t51 z.1) (by rw [t7b]; (first | rw [t82b] | rw [t51b]); omega)] at h9
                       omega)
                    | (have m_ := t187b
                       refine ⟨?_, zxe.trans (by rw [t7b]; (first | rw [t82b] | rw [t51b]); omega)⟩
                       rw [tNe_n (by first | exact t82 | exact t51)]
                       exact p23hv)
                    | (have m_ := t187
                       rw [tNf_3 w23.1 (fun z => by first | exact t82 z.1 | exact t51 z.1) (by rw [t7b]; (first | rw [t82b] | rw [t51b]); omega)] at h9
                       omega)
                · have t187 : (1 : Int) ≤ 2 := (by decide)
                  refine And.intro (zDX hD 0 rfl) (Exists.intro _ (And.intro (zinl_ok (zT20_9 1)) (And.intro rfl ?_)))
                  refine And.intro (zDX hD 0 rfl) (zrd (v := (tDe c n (tNq c n p_ + 1) 6)) w97.2 ?_)
                  refine And.intro ⟨(by omega), (zRb rfl)⟩ ⟨fun h5_192 => ?_, (fun h5_192 => False.elim (by omega))⟩
                  refine And.intro (zDX hD 0 rfl) ⟨_, zW6i (by omega), ?_⟩
                  refine hQ _ _ _ ?_ ?_ (fun c j h0 => ((p92bbfr c j (by omega)).trans ((p23bbfr c j (by omega)).trans rfl))) (fun c j h0 => (zxcj h0 rfl))
                  · first
                    | (rw [tNf_1 (show tBd c (tNs c p_) (tNq c n p_) from w23.1)]
                       exact w23.2)
                    | (rw [tNf_2 w23.1 t82 w97.1]
                       exact w97.2)
                    | (have m_ := t179
                       rw [tNf_3 w23.1 (fun z => by first | exact t82 z.1 | exact t51 z.1) (by rw [t7b]; (first | rw [t82b] | rw [t51b]); omega)]
                       exact zxe.trans (by omega))
                    | (have m_ := t187b
                       rw [tNf_4 w23.1 (fun z => by first | exact t82 z.1 | exact t51 z.1) (by rw [t7b]; (first | rw [t82b] | rw [t51b]); omega)]
                       exact w23.2)
                    | (have m_ := t187
                       rw [tNf_3 w23.1 (fun z => by first | exact t82 z.1 | exact t51 z.1) (by rw [t7b]; (first | rw [t82b] | rw [t51b]); omega)]
                       exact zxe.trans (by omega))
                  · intro h9
                    first
                    | (rw [tNf_1 (show tBd c (tNs c p_) (tNq c n p_) from w23.1)] at h9
                       omega)
                    | (rw [tNf_2 w23.1 t82 w97.1] at h9
                       omega)
                    | (have m_ := t179
                       rw [tNf_3 w23.1 (fun z => by first | exact t82 z.1 | exact t51 z.1) (by rw [t7b]; (first | rw [t82b] | rw [t51b]); omega)] at h9
                       omega)
                    | (have m_ := t187b
                       refine ⟨?_, zxe.trans (by rw [t7b]; (first | rw [t82b] | rw [t51b]); omega)⟩
                       rw [tNe_n (by first | exact t82 | exact t51)]
                       exact p23hv)
                    | (have m_ := t187
                       rw [tNf_3 w23.1 (fun z => by first | exact t82 z.1 | exact t51 z.1) (by rw [t7b]; (first | rw [t82b] | rw [t51b]); omega)] at h9
                       omega)
      · refine And.intro (zDX hD 0 rfl) (zrd (v := (tDe c n (tNs c p_) 4)) w23.2 ?_)
        refine And.intro ⟨(by omega), (zRb rfl)⟩ ⟨fun h33 => ?_, (fun h33 => False.elim (by omega))⟩
        refine And.intro (by omega) ⟨fun h51 => ?_, fun h51 => ?_⟩
        · have t51 : ¬ tFr c (tNq c n p_) b_ := (fun w => by have w1 := w.1; omega)
          have t51b : tNu c n p_ b_ = tVl c (tNs c p_) (tNq c n p_ - tNs c p_) := (tNu_0 (by omega))
          refine And.intro (by omega) ⟨fun h63 => ?_, (fun h63 => False.elim (by omega))⟩
          refine And.intro ⟨(by omega), (by omega)⟩ ⟨(fun h161 => False.elim (by omega)), fun h161 => ?_⟩
          refine ⟨_, _, ⟨zW6i (zRL rfl), zW6i (by omega)⟩, fun z178 c178 => ?_⟩
          refine And.intro c178.2.2 ⟨fun h179 => ?_, fun h179 => ?_⟩
          · have t179 : (1 : Int) ≤ 2 := (by decide)
            refine And.intro (zDX hD 0 rfl) (Exists.intro _ (And.intro (zinl_ok (zT20_9 1)) (And.intro rfl ?_)))
            refine And.intro (zDX hD 0 rfl) (zrd (v := (tDe c n (tNs c p_) 4)) w23.2 ?_)
            refine And.intro ⟨(by omega), (zRb rfl)⟩ ⟨fun h5_192 => ?_, (fun h5_192 => False.elim (by omega))⟩
            refine And.intro (zDX hD 0 rfl) ⟨_, zW6i (zRL rfl), ?_⟩
            refine hQ _ _ _ ?_ ?_ (fun c j h0 => ((p23bbfr c j (by omega)).trans rfl)) (fun c j h0 => (zxcj h0 rfl))
            · first
              | (rw [tNf_1 (show tBd c (tNs c p_) (tNq c n p_) from w23.1)]
                 exact w23.2)
              | (rw [tNf_2 w23.1 t82 w97.1]
                 exact w97.2)
              | (have m_ := t179
                 rw [tNf_3 w23.1 (fun z => by first | exact t82 z.1 | exact t51 z.1) (by rw [t7b]; (first | rw [t82b] | rw [t51b]); omega)]
                 exact zxe.trans (by omega))
              | (have m_ := t187b
                 rw [tNf_4 w23.1 (fun z => by first | exact t82 z.1 | exact t51 z.1) (by rw [t7b]; (first | rw [t82b] | rw [t51b]); omega)]
                 exact w23.2)
              | (have m_ := t187
                 rw [tNf_3 w23.1 (fun z => by first | exact t82 z.1 | exact t51 z.1) (by rw [t7b]; (first | rw [t82b] | rw [t51b]); omega)]
                 exact zxe.trans (by omega))
            · intro h9
              first
              | (rw [tNf_1 (show tBd c (tNs c p_) (tNq c n p_) from w23.1)] at h9
                 omega)
              | (rw [tNf_2 w23.1 t82 w97.1] at h9
                 omega)
              | (have m_ := t179
                 rw [tNf_3 w23.1 (fun z => by first | exact t82 z.1 | exact t51 z.1) (by rw [t7b]; (first | rw [t82b] | rw [t51b]); omega)] at h9
                 omega)
              | (have m_ := t187b
                 refine ⟨?_, zxe.trans (by rw [t7b]; (first | rw [t82b] | rw [t51b]); omega)⟩
                 rw [tNe_n (by first | exact t82 | exact t51)]
                 exact p23hv)
              | (have m_ := t187
                 rw [tNf_3 w23.1 (fun z => by first | exact t82 z.1 | exact t51 z.1) (by rw [t7b]; (first | rw [t82b] | rw [t51b]); omega)] at h9
                 omega)
          · refine ⟨_, _, ⟨zW6i (zRL rfl), zW6i (by omega)⟩, fun z186 c186 => ?_⟩
            refine And.intro c186.2.2 ⟨fun h187 => ?_, fun h187 => ?_⟩
            · have t187 : (1 : Int) ≤ 2 := (by decide)
              have t187b : (1 : Int) ≤ 2 := (by decide)
              refine And.intro (zDX hD 0 rfl) ⟨_, zW6i (zRL rfl), ?_⟩
              refine hQ _ _ _ ?_ ?_ (fun c j h0 => ((p23bbfr c j (by omega)).trans rfl)) (fun c j h0 => (zxcj h0 rfl))
              · first
                | (rw [tNf_1 (show tBd c (tNs c p_) (tNq c n p_) from w23.1)]
                   exact w23.2)
                | (rw [tNf_2 w23.1 t82 w97.1]
                   exact w97.2)
                | (have m_ := t179
                   rw [tNf_3 w23.1 (fun z => by first | exact t82 z.1 | exact t51 z.1) (by rw [t7b]; (first | rw [t82b] | rw [t51b]); omega)]
                   exact zxe.trans (by omega))
                | (have m_ := t187b
                   rw [tNf_4 w23.1 (fun z => by first | exact t82 z.1 | exact t51 z.1) (by rw [t7b]; (first | rw [t82b] | rw [t51b]); omega)]
                   exact w23.2)
                | (have m_ := t187
                   rw [tNf_3 w23.1 (fun z => by first | exact t82 z.1 | exact t51 z.1) (by rw [t7b]; (first | rw [t82b] | rw [t51b]); omega)]
                   exact zxe.trans (by omega))
              · intro h9
                first
                | (rw [tNf_1 (show tBd c (tNs c p_) (tNq c n p_) from w23.1)] at h9
                   omega)
                | (rw [tNf_2 w23.1 t82 w97.1] at h9
                   omega)
                | (have m_ := t179
                   rw [tNf_3 w23.1 (fun z => by first | exact t82 z.1 | exact t51 z.1) (by rw [t7b]; (first | rw [t82b] | rw [t51b]); omega)] at h9
                   omega)
                | (have m_ := t187b
                   refine ⟨?_, zxe.trans (by rw [t7b]; (first | rw [t82b] | rw [t51b]); omega)⟩
                   rw [tNe_n (by first | exact t82 | exact t51)]
                   exact p23hv)
                | (have m_ := t187
                   rw [tNf_3 w23.1 (fun z => by first | exact t82 z.1 | exact t51 z.1) (by rw [t7b]; (first | rw [t82b] | rw [t51b]); omega)] at h9
                   omega)
            · have t187 : (1 : Int) ≤ 2 := (by decide)
              refine And.intro (zDX hD 0 rfl) (Exists.intro _ (And.intro (zinl_ok (zT20_9 1)) (And.intro rfl ?_)))
              refine And.intro (zDX hD 0 rfl) (zrd (v := (tDe c n (tNs c p_) 4)) w23.2 ?_)
              refine And.intro ⟨(by omega), (zRb rfl)⟩ ⟨fun h5_192 => ?_, (fun h5_192 => False.elim (by omega))⟩
              refine And.intro (zDX hD 0 rfl) ⟨_, zW6i (zRL rfl), ?_⟩
              refine hQ _ _ _ ?_ ?_ (fun c j h0 => ((p23bbfr c j (by omega)).trans rfl)) (fun c j h0 => (zxcj h0 rfl))
              · first
                | (rw [tNf_1 (show tBd c (tNs c p_) (tNq c n p_) from w23.1)]
                   exact w23.2)
                | (rw [tNf_2 w23.1 t82 w97.1]
                   exact w97.2)
                | (have m_ := t179
                   rw [tNf_3 w23.1 (fun z => by first | exact t82 z.1 | exact t51 z.1) (by rw [t7b]; (first | rw [t82b] | rw [t51b]); omega)]
                   exact zxe.trans (by omega))
                | (have m_ := t187b
                   rw [tNf_4 w23.1 (fun z => by first | exact t82 z.1 | exact t51 z.1) (by rw [t7b]; (first | rw [t82b] | rw [t51b]); omega)]
                   exact w23.2)
                | (have m_ := t187
                   rw [tNf_3 w23.1 (fun z => by first | exact t82 z.1 | exact t51 z.1) (by rw [t7b]; (first | rw [t82b] | rw [t51b]); omega)]
                   exact zxe.trans (by omega))
              · intro h9
                first
                | (rw [tNf_1 (show tBd c (tNs c p_) (tNq c n p_) from w23.1)] at h9
                   omega)
                | (rw [tNf_2 w23.1 t82 w97.1] at h9
                   omega)
                | (have m_ := t179
                   rw [tNf_3 w23.1 (fun z => by first | exact t82 z.1 | exact t51 z.1) (by rw [t7b]; (first | rw [t82b] | rw [t51b]); omega)] at h9
                   omega)
                | (have m_ := t187b
                   refine ⟨?_, zxe.trans (by rw [t7b]; (first | rw [t82b] | rw [t51b]); omega)⟩
                   rw [tNe_n (by first | exact t82 | exact t51)]
                   exact p23hv)
                | (have m_ := t187
                   rw [tNf_3 w23.1 (fun z => by first | exact t82 z.1 | exact t51 z.1) (by rw [t7b]; (first | rw [t82b] | rw [t51b]); omega)] at h9
                   omega)
        · have t51 : b_ = 1 := (by omega)
          refine And.intro (by omega) ⟨(fun h63 => False.elim (by omega)), fun h63 => ?_⟩
          refine And.intro (zDX hD 0 rfl) (zrd (v := (tDe c n (tNs c p_) 4)) w23.2 ?_)
          refine And.intro ⟨(by omega), (zRb rfl)⟩ ⟨fun h71 => ?_, (fun h71 => False.elim (by omega))⟩
          refine And.intro ⟨(by omega), (by omega)⟩ ⟨(fun h161 => False.elim (by omega)), fun h161 => ?_⟩
          refine ⟨_, _, ⟨zW6i (zRL rfl), zW6i (by omega)⟩, fun z178 c178 => ?_⟩
          refine And.intro c178.2.2 ⟨fun h179 => ?_, fun h179 => ?_⟩
          · have t179 : (1 : Int) ≤ 2 := (by decide)
            refine And.intro (zDX hD 0 rfl) (Exists.intro _ (And.intro (zinl_ok (zT20_9 1)) (And.intro rfl ?_)))
            refine And.intro (zDX hD 0 rfl) (zrd (v := (tDe c n (tNs c p_) 4)) w23.2 ?_)
            refine And.intro ⟨(by omega), (zRb rfl)⟩ ⟨fun h5_192 => ?_, (fun h5_192 => False.elim (by omega))⟩
            refine And.intro (zDX hD 0 rfl) ⟨_, zW6i (zRL rfl), ?_⟩
            refine hQ _ _ _ ?_ ?_ (fun c j h0 => ((p23bbfr c j (by omega)).trans rfl)) (fun c j h0 => (zxcj h0 rfl))
            · first
              | (rw [tNf_1 (show tBd c (tNs c p_) (tNq c n p_) from w23.1)]
                 exact w23.2)
              | (rw [tNf_2 w23.1 t82 w97.1]
                 exact w97.2)
              | (have m_ := t179
                 rw [tNf_3 w23.1 (fun z => by first | exact t82 z.1 | exact t51 z.1) (by rw [t7b]; (first | rw [t82b] | rw [t51b]); omega)]
                 exact zxe.trans (by omega))
              | (have m_ := t187b
                 rw [tNf_4 w23.1 (fun z => by first | exact t82 z.1 | exact t51 z.1) (by rw [t7b]; (first | rw [t82b] | rw [t51b]); omega)]
                 exact w23.2)
              | (have m_ := t187
                 rw [tNf_3 w23.1 (fun z => by first | exact t82 z.1 | exact t51 z.1) (by rw [t7b]; (first | rw [t82b] | rw [t51b]); omega)]
                 exact zxe.trans (by omega))
            · intro h9
              first
              | (rw [tNf_1 (show tBd c (tNs c p_) (tNq c n p_) from w23.1)] at h9
                 omega)
              | (rw [tNf_2 w23.1 t82 w97.1] at h9
                 omega)
              | (have m_ := t179
                 rw [tNf_3 w23.1 (fun z => by first | exact t82 z.1 | exact t51 z.1) (by rw [t7b]; (first | rw [t82b] | rw [t51b]); omega)] at h9
                 omega)
              | (have m_ := t187b
                 refine ⟨?_, zxe.trans (by rw [t7b]; (first | rw [t82b] | rw [t51b]); omega)⟩
                 rw [tNe_n (by first | exact t82 | exact t51)]
                 exact p23hv)
              | (have m_ := t187
                 rw [tNf_3 w23.1 (fun z => by first | exact t82 z.1 | exact t51 z.1) (by rw [t7b]; (first | rw [t82b] | rw [t51b]); omega)] at h9
                 omega)
          · refine ⟨_, _, ⟨zW6i (zRL rfl), zW6i (by omega)⟩, fun z186 c186 => ?_⟩
            refine And.intro c186.2.2 ⟨fun h187 => ?_, fun h187 => ?_⟩
            · have t187 : (1 : Int) ≤ 2 := (by decide)
              have t187b : (1 : Int) ≤ 2 := (by decide)
              refine And.intro (zDX hD 0 rfl) ⟨_, zW6i (zRL rfl), ?_⟩
              refine hQ _ _ _ ?_ ?_ (fun c j h0 => ((p23bbfr c j (by omega)).trans rfl)) (fun c j h0 => (zxcj h0 rfl))
              · first
                | (rw [tNf_1 (show tBd c (tNs c p_) (tNq c n p_) from w23.1)]
                   exact w23.2)
                | (rw [tNf_2 w23.1 t82 w97.1]
                   exact w97.2)
                | (have m_ := t179
                   rw [tNf_3 w23.1 (fun z => by first | exact t82 z.1 | exact t51 z.1) (by rw [t7b]; (first | rw [t82b] | rw [t51b]); omega)]
                   exact zxe.trans (by omega))
                | (have m_ := t187b
                   rw [tNf_4 w23.1 (fun z => by first | exact t82 z.1 | exact t51 z.1) (by rw [t7b]; (first | rw [t82b] | rw [t51b]); omega)]
                   exact w23.2)
                | (have m_ := t187
                   rw [tNf_3 w23.1 (fun z => by first | exact t82 z.1 | exact t51 z.1) (by rw [t7b]; (first | rw [t82b] | rw [t51b]); omega)]
                   exact zxe.trans (by omega))
              · intro h9
                first
                | (rw [tNf_1 (show tBd c (tNs c p_) (tNq c n p_) from w23.1)] at h9
                   omega)
                | (rw [tNf_2 w23.1 t82 w97.1] at h9
                   omega)
                | (have m_ := t179
                   rw [tNf_3 w23.1 (fun z => by first | exact t82 z.1 | exact t51 z.1) (by rw [t7b]; (first | rw [t82b] | rw [t51b]); omega)] at h9
                   omega)
                | (have m_ := t187b
                   refine ⟨?_, zxe.trans (by rw [t7b]; (first | rw [t82b] | rw [t51b]); omega)⟩
                   rw [tNe_n (by first | exact t82 | exact t51)]
                   exact p23hv)
                | (have m_ := t187
                   rw [tNf_3 w23.1 (fun z => by first | exact t82 z.1 | exact t51 z.1) (by rw [t7b]; (first | rw [t82b] | rw [t51b]); omega)] at h9
                   omega)
            · have t187 : (1 : Int) ≤ 2 := (by decide)
              refine And.intro (zDX hD 0 rfl) (Exists.intro _ (And.intro (zinl_ok (zT20_9 1)) (And.intro rfl ?_)))
              refine And.intro (zDX hD 0 rfl) (zrd (v := (tDe c n (tNs c p_) 4)) w23.2 ?_)
              refine And.intro ⟨(by omega), (zRb rfl)⟩ ⟨fun h5_192 => ?_, (fun h5_192 => False.elim (by omega))⟩
              refine And.intro (zDX hD 0 rfl) ⟨_, zW6i (zRL rfl), ?_⟩
              refine hQ _ _ _ ?_ ?_ (fun c j h0 => ((p23bbfr c j (by omega)).trans rfl)) (fun c j h0 => (zxcj h0 rfl))
              · first
                | (rw [tNf_1 (show tBd c (tNs c p_) (tNq c n p_) from w23.1)]
                   exact w23.2)
                | (rw [tNf_2 w23.1 t82 w97.1]
                   exact w97.2)
                | (have m_ := t179
                   rw [tNf_3 w23.1 (fun z => by first | exact t82 z.1 | exact t51 z.1) (by rw [t7b]; (first | rw [t82b] | rw [t51b]); omega)]
                   exact zxe.trans (by omega))
                | (have m_ := t187b
                   rw [tNf_4 w23.1 (fun z => by first | exact t82 z.1 | exact t51 z.1) (by rw [t7b]; (first | rw [t82b] | rw [t51b]); omega)]
                   exact w23.2)
                | (have m_ := t187
                   rw [tNf_3 w23.1 (fun z => by first | exact t82 z.1 | exact t51 z.1) (by rw [t7b]; (first | rw [t82b] | rw [t51b]); omega)]
                   exact zxe.trans (by omega))
              · intro h9
                first
                | (rw [tNf_1 (show tBd c (tNs c p_) (tNq c n p_) from w23.1)] at h9
                   omega)
                | (rw [tNf_2 w23.1 t82 w97.1] at h9
                   omega)
                | (have m_ := t179
                   rw [tNf_3 w23.1 (fun z => by first | exact t82 z.1 | exact t51 z.1) (by rw [t7b]; (first | rw [t82b] | rw [t51b]); omega)] at h9
                   omega)
                | (have m_ := t187b
                   refine ⟨?_, zxe.trans (by rw [t7b]; (first | rw [t82b] | rw [t51b]); omega)⟩
                   rw [tNe_n (by first | exact t82 | exact t51)]
                   exact p23hv)
                | (have m_ := t187
                   rw [tNf_3 w23.1 (fun z => by first | exact t82 z.1 | exact t51 z.1) (by rw [t7b]; (first | rw [t82b] | rw [t51b]); omega)] at h9
                   omega)
  · rintro nM lsM stM I1 L1 R1 S1 hz1 ⟨i, s, q, r, v, x, rfl, rfl, rfl, rfl, rfl, rfl, hii, hsg, hr, hb1, hfr, hb2, hb3, hv, hvb, hx, hxb, hf1, fr⟩
    have xd := tDe_sp (p := tNq c n p_ + 1) (m := 6) hc
    refine And.intro ⟨(by omega), (zRb rfl)⟩ ⟨fun h130 => ?_, fun h130 => ?_⟩
    · refine And.intro ⟨(by omega), (by omega)⟩ ⟨fun h161 => ?_, fun h161 => ?_⟩
      · refine ⟨_, _, ⟨zW6i (by omega), zW6i (by omega)⟩, fun z178 c178 => ?_⟩
        refine And.intro c178.2.2 ⟨fun h179 => ?_, fun h179 => ?_⟩
        · have t179 : (1 : Int) ≤ 2 := (by decide)
          refine And.intro (zDX hD 0 rfl) (Exists.intro _ (And.intro (zinl_ok (zT20_9 1)) (And.intro rfl ?_)))
          refine And.intro (zDX hD 0 rfl) (zrd (v := (-1)) hf1 ?_)
          refine And.intro ⟨(zRb rfl), (zRb rfl)⟩ (zbf rfl ?_)
          refine And.intro (zDX hD 0 rfl) ⟨_, (zWi (by omega)), ?_⟩
          refine And.intro (zDX hD 0 rfl) ⟨_, zW6i (by omega), ?_⟩
          refine hQ _ _ _ ?_ ?_ (fun c j h0 => (zxcj h0 ((fr c j (by omega)).trans rfl))) (fun c j h0 => (zxcj h0 rfl))
          · have ev : tNu c n p_ b_ = v + x := by rw [tNu_y hb1 hfr, hv]; obtain rfl : i = 6 := (by omega); rw [hx]
            first
            | (have m_ := t179
               rw [tNf_3 hb2 (fun z => hb3 z.2) (by first | (rw [tNv_y (by omega), ev] <;> omega) | (rw [tNv_n (by omega), ev] <;> omega))]
               exact zxe.trans (by omega))
            | (have m_ := t187b
               rw [tNf_4 hb2 (fun z => hb3 z.2) (by first | (rw [tNv_y (by omega), ev] <;> omega) | (rw [tNv_n (by omega), ev] <;> omega))]
               exact hf1)
            | (have m_ := t187
               rw [tNf_3 hb2 (fun z => hb3 z.2) (by first | (rw [tNv_y (by omega), ev] <;> omega) | (rw [tNv_n (by omega), ev] <;> omega))]
               exact zxe.trans (by omega))
          · have ev : tNu c n p_ b_ = v + x := by rw [tNu_y hb1 hfr, hv]; obtain rfl : i = 6 := (by omega); rw [hx]
            intro h9
            first
            | (have m_ := t179
               rw [tNf_3 hb2 (fun z => hb3 z.2) (by first | (rw [tNv_y (by omega), ev] <;> omega) | (rw [tNv_n (by omega), ev] <;> omega))] at h9
               omega)
            | (have m_ := t187b
               refine ⟨?_, zxe.trans (by first | (rw [tNv_y (by omega), ev] <;> omega) | (rw [tNv_n (by omega), ev] <;> omega))⟩
               rw [tNe_y hfr]
               exact hr)
            | (have m_ := t187
               rw [tNf_3 hb2 (fun z => hb3 z.2) (by first | (rw [tNv_y (by omega), ev] <;> omega) | (rw [tNv_n (by omega), ev] <;> omega))] at h9
               omega)
        · refine ⟨_, _, ⟨zW6i (by omega), zW6i (by omega)⟩, fun z186 c186 => ?_⟩
          refine And.intro c186.2.2 ⟨fun h187 => ?_, fun h187 => ?_⟩
          · have t187 : (1 : Int) ≤ 2 := (by decide)
            have t187b : (1 : Int) ≤ 2 := (by decide)
            refine And.intro (zDX hD 0 rfl) ⟨_, zW6i (by omega), ?_⟩
            refine hQ _ _ _ ?_ ?_ (fun c j h0 => ((fr c j (by omega)).trans rfl)) (fun c j h0 => (zxcj h0 rfl))
            · have ev : tNu c n p_ b_ = v + x := by rw [tNu_y hb1 hfr, hv]; obtain rfl : i = 6 := (by omega); rw [hx]
              first
              | (have m_ := t179
                 rw [tNf_3 hb2 (fun z => hb3 z.2) (by first | (rw [tNv_y (by omega), ev] <;> omega) | (rw [tNv_n (by omega), ev] <;> omega))]
                 exact zxe.trans (by omega))
              | (have m_ := t187b
                 rw [tNf_4 hb2 (fun z => hb3 z.2) (by first | (rw [tNv_y (by omega), ev] <;> omega) | (rw [tNv_n (by omega), ev] <;> omega))]
                 exact hf1)
              | (have m_ := t187
                 rw [tNf_3 hb2 (fun z => hb3 z.2) (by first | (rw [tNv_y (by omega), ev] <;> omega) | (rw [tNv_n (by omega), ev] <;> omega))]
                 exact zxe.trans (by omega))
            · have ev : tNu c n p_ b_ = v + x := by rw [tNu_y hb1 hfr, hv]; obtain rfl : i = 6 := (by omega); rw [hx]
              intro h9
              first
              | (have m_ := t179
                 rw [tNf_3 hb2 (fun z => hb3 z.2) (by first | (rw [tNv_y (by omega), ev] <;> omega) | (rw [tNv_n (by omega), ev] <;> omega))] at h9
                 omega)
              | (have m_ := t187b
                 refine ⟨?_, zxe.trans (by first | (rw [tNv_y (by omega), ev] <;> omega) | (rw [tNv_n (by omega), ev] <;> omega))⟩
                 rw [tNe_y hfr]
                 exact hr)
              | (have m_ := t187
                 rw [tNf_3 hb2 (fun z => hb3 z.2) (by first | (rw [tNv_y (by omega), ev] <;> omega) | (rw [tNv_n (by omega), ev] <;> omega))] at h9
                 omega)
          · have t187 : (1 : Int) ≤ 2 := (by decide)
            refine And.intro (zDX hD 0 rfl) (Exists.intro _ (And.intro (zinl_ok (zT20_9 1)) (And.intro rfl ?_)))
            refine And.intro (zDX hD 0 rfl) (zrd (v := (-1)) hf1 ?_)
            refine And.intro ⟨(zRb rfl), (zRb rfl)⟩ (zbf rfl ?_)
            refine And.intro (zDX hD 0 rfl) ⟨_, (zWi (by omega)), ?_⟩
            refine And.intro (zDX hD 0 rfl) ⟨_, zW6i (by omega), ?_⟩
            refine hQ _ _ _ ?_ ?_ (fun c j h0 => (zxcj h0 ((fr c j (by omega)).trans rfl))) (fun c j h0 => (zxcj h0 rfl))
            · have ev : tNu c n p_ b_ = v + x := by rw [tNu_y hb1 hfr, hv]; obtain rfl : i = 6 := (by omega); rw [hx]
              first
              | (have m_ := t179
                 rw [tNf_3 hb2 (fun z => hb3 z.2) (by first | (rw [tNv_y (by omega), ev] <;> omega) | (rw [tNv_n (by omega), ev] <;> omega))]
                 exact zxe.trans (by omega))
              | (have m_ := t187b
                 rw [tNf_4 hb2 (fun z => hb3 z.2) (by first | (rw [tNv_y (by omega), ev] <;> omega) | (rw [tNv_n (by omega), ev] <;> omega))]
                 exact hf1)
              | (have m_ := t187
                 rw [tNf_3 hb2 (fun z => hb3 z.2) (by first | (rw [tNv_y (by omega), ev] <;> omega) | (rw [tNv_n (by omega), ev] <;> omega))]
                 exact zxe.trans (by omega))
            · have ev : tNu c n p_ b_ = v + x := by rw [tNu_y hb1 hfr, hv]; obtain rfl : i = 6 := (by omega); rw [hx]
              intro h9
              first
              | (have m_ := t179
                 rw [tNf_3 hb2 (fun z => hb3 z.2) (by first | (rw [tNv_y (by omega), ev] <;> omega) | (rw [tNv_n (by omega), ev] <;> omega))] at h9
                 omega)
              | (have m_ := t187b
                 refine ⟨?_, zxe.trans (by first | (rw [tNv_y (by omega), ev] <;> omega) | (rw [tNv_n (by omega), ev] <;> omega))⟩
                 rw [tNe_y hfr]
                 exact hr)
              | (have m_ := t187
                 rw [tNf_3 hb2 (fun z => hb3 z.2) (by first | (rw [tNv_y (by omega), ev] <;> omega) | (rw [tNv_n (by omega), ev] <;> omega))] at h9
                 omega)
      · refine ⟨_, _, ⟨zW6i (by omega), zW6i (by omega)⟩, fun z178 c178 => ?_⟩
        refine And.intro c178.2.2 ⟨fun h179 => ?_, fun h179 => ?_⟩
        · have t179 : (1 : Int) ≤ 2 := (by decide)
          refine And.intro (zDX hD 0 rfl) (Exists.intro _ (And.intro (zinl_ok (zT20_9 1)) (And.intro rfl ?_)))
          refine And.intro (zDX hD 0 rfl) (zrd (v := (-1)) hf1 ?_)
          refine And.intro ⟨(zRb rfl), (zRb rfl)⟩ (zbf rfl ?_)
          refine And.intro (zDX hD 0 rfl) ⟨_, (zWi (by omega)), ?_⟩
          refine And.intro (zDX hD 0 rfl) ⟨_, zW6i (by omega), ?_⟩
          refine hQ _ _ _ ?_ ?_ (fun c j h0 => (zxcj h0 ((fr c j (by omega)).trans rfl))) (fun c j h0 => (zxcj h0 rfl))
          · have ev : tNu c n p_ b_ = v + x := by rw [tNu_y hb1 hfr, hv]; obtain rfl : i = 6 := (by omega); rw [hx]
            first
            | (have m_ := t179
               rw [tNf_3 hb2 (fun z => hb3 z.2) (by first | (rw [tNv_y (by omega), ev] <;> omega) | (rw [tNv_n (by omega), ev] <;> omega))]
               exact zxe.trans (by omega))
            | (have m_ := t187b
               rw [tNf_4 hb2 (fun z => hb3 z.2) (by first | (rw [tNv_y (by omega), ev] <;> omega) | (rw [tNv_n (by omega), ev] <;> omega))]
               exact hf1)
            | (have m_ := t187
               rw [tNf_3 hb2 (fun z => hb3 z.2) (by first | (rw [tNv_y (by omega), ev] <;> omega) | (rw [tNv_n (by omega), ev] <;> omega))]
               exact zxe.trans (by omega))
          · have ev : tNu c n p_ b_ = v + x := by rw [tNu_y hb1 hfr, hv]; obtain rfl : i = 6 := (by omega); rw [hx]
            intro h9
            first
            | (have m_ := t179
               rw [tNf_3 hb2 (fun z => hb3 z.2) (by first | (rw [tNv_y (by omega), ev] <;> omega) | (rw [tNv_n (by omega), ev] <;> omega))] at h9
               omega)
            | (have m_ := t187b
               refine ⟨?_, zxe.trans (by first | (rw [tNv_y (by omega), ev] <;> omega) | (rw [tNv_n (by omega), ev] <;> omega))⟩
               rw [tNe_y hfr]
               exact hr)
            | (have m_ := t187
               rw [tNf_3 hb2 (fun z => hb3 z.2) (by first | (rw [tNv_y (by omega), ev] <;> omega) | (rw [tNv_n (by omega), ev] <;> omega))] at h9
               omega)
        · refine ⟨_, _, ⟨zW6i (by omega), zW6i (by omega)⟩, fun z186 c186 => ?_⟩
          refine And.intro c186.2.2 ⟨fun h187 => ?_, fun h187 => ?_⟩
          · have t187 : (1 : Int) ≤ 2 := (by decide)
            have t187b : (1 : Int) ≤ 2 := (by decide)
            refine And.intro (zDX hD 0 rfl) ⟨_, zW6i (by omega), ?_⟩
            refine hQ _ _ _ ?_ ?_ (fun c j h0 => ((fr c j (by omega)).trans rfl)) (fun c j h0 => (zxcj h0 rfl))
            · have ev : tNu c n p_ b_ = v + x := by rw [tNu_y hb1 hfr, hv]; obtain rfl : i = 6 := (by omega); rw [hx]
              first
              | (have m_ := t179
                 rw [tNf_3 hb2 (fun z => hb3 z.2) (by first | (rw [tNv_y (by omega), ev] <;> omega) | (rw [tNv_n (by omega), ev] <;> omega))]
                 exact zxe.trans (by omega))
              | (have m_ := t187b
                 rw [tNf_4 hb2 (fun z => hb3 z.2) (by first | (rw [tNv_y (by omega), ev] <;> omega) | (rw [tNv_n (by omega), ev] <;> omega))]
                 exact hf1)
              | (have m_ := t187
                 rw [tNf_3 hb2 (fun z => hb3 z.2) (by first | (rw [tNv_y (by omega), ev] <;> omega) | (rw [tNv_n (by omega), ev] <;> omega))]
                 exact zxe.trans (by omega))
            · have ev : tNu c n p_ b_ = v + x := by rw [tNu_y hb1 hfr, hv]; obtain rfl : i = 6 := (by omega); rw [hx]
              intro h9
              first
              | (have m_ := t179
                 rw [tNf_3 hb2 (fun z => hb3 z.2) (by first | (rw [tNv_y (by omega), ev] <;> omega) | (rw [tNv_n (by omega), ev] <;> omega))] at h9
                 omega)
              | (have m_ := t187b
                 refine ⟨?_, zxe.trans (by first | (rw [tNv_y (by omega), ev] <;> omega) | (rw [tNv_n (by omega), ev] <;> omega))⟩
                 rw [tNe_y hfr]
                 exact hr)
              | (have m_ := t187
                 rw [tNf_3 hb2 (fun z => hb3 z.2) (by first | (rw [tNv_y (by omega), ev] <;> omega) | (rw [tNv_n (by omega), ev] <;> omega))] at h9
                 omega)
          · have t187 : (1 : Int) ≤ 2 := (by decide)
            refine And.intro (zDX hD 0 rfl) (Exists.intro _ (And.intro (zinl_ok (zT20_9 1)) (And.intro rfl ?_)))
            refine And.intro (zDX hD 0 rfl) (zrd (v := (-1)) hf1 ?_)
            refine And.intro ⟨(zRb rfl), (zRb rfl)⟩ (zbf rfl ?_)
            refine And.intro (zDX hD 0 rfl) ⟨_, (zWi (by omega)), ?_⟩
            refine And.intro (zDX hD 0 rfl) ⟨_, zW6i (by omega), ?_⟩
            refine hQ _ _ _ ?_ ?_ (fun c j h0 => (zxcj h0 ((fr c j (by omega)).trans rfl))) (fun c j h0 => (zxcj h0 rfl))
            · have ev : tNu c n p_ b_ = v + x := by rw [tNu_y hb1 hfr, hv]; obtain rfl : i = 6 := (by omega); rw [hx]
              first
              | (have m_ := t179
                 rw [tNf_3 hb2 (fun z => hb3 z.2) (by first | (rw [tNv_y (by omega), ev] <;> omega) | (rw [tNv_n (by omega), ev] <;> omega))]
                 exact zxe.trans (by omega))
              | (have m_ := t187b
                 rw [tNf_4 hb2 (fun z => hb3 z.2) (by first | (rw [tNv_y (by omega), ev] <;> omega) | (rw [tNv_n (by omega), ev] <;> omega))]
                 exact hf1)
              | (have m_ := t187
                 rw [tNf_3 hb2 (fun z => hb3 z.2) (by first | (rw [tNv_y (by omega), ev] <;> omega) | (rw [tNv_n (by omega), ev] <;> omega))]
                 exact zxe.trans (by omega))
            · have ev : tNu c n p_ b_ = v + x := by rw [tNu_y hb1 hfr, hv]; obtain rfl : i = 6 := (by omega); rw [hx]
              intro h9
              first
              | (have m_ := t179
                 rw [tNf_3 hb2 (fun z => hb3 z.2) (by first | (rw [tNv_y (by omega), ev] <;> omega) | (rw [tNv_n (by omega), ev] <;> omega))] at h9
                 omega)
              | (have m_ := t187b
                 refine ⟨?_, zxe.trans (by first | (rw [tNv_y (by omega), ev] <;> omega) | (rw [tNv_n (by omega), ev] <;> omega))⟩
                 rw [tNe_y hfr]
                 exact hr)
              | (have m_ := t187
                 rw [tNf_3 hb2 (fun z => hb3 z.2) (by first | (rw [tNv_y (by omega), ev] <;> omega) | (rw [tNv_n (by omega), ev] <;> omega))] at h9
                 omega)
    · refine ⟨((7 - (i + 1)), 0, 0), zlt6 (by omega), [some (zvr (k)), some (zvi (p_)), none, some (zvl (lo)), none, some (zvl (hi)), none, some (zvi (s)), some (zvi (q)), some (zvl (v)), none, some (zvi (r)), some (zvl ((10 * x))), none, some (zvi ((i + 1)))], ⟨rfl, rfl, rfl, rfl, rfl, rfl, rfl, rfl, rfl, rfl, rfl⟩, (i + 1), s, q, r, v, (10 * x), rfl, rfl, rfl, rfl, rfl, rfl, (by omega), hsg, (by omega), (by omega), hfr, hb2, hb3, hv, (by omega), (by rw [show i + 1 - (tNr c n p_ - (tNq c n p_ + 1)) = (i - (tNr c n p_ - (tNq c n p_ + 1))) + 1 by omega, hx]; show _ = 10 * tTn (i - (tNr c n p_ - (tNq c n p_ + 1))) * _; rw [Int.mul_assoc]), ?_, hf1, (fun c j h0 => ((fr c j (by omega)).trans rfl))⟩
      · have xv := tVl_b (c := c) (p := tNq c n p_ + 1) (n := (tNr c n p_ - (tNq c n p_ + 1))) (fun j h1 h2 => xd.2.2.1 j h1 (by show j < tNr c n p_; omega)) (Nat.le_refl _)
        have xm := tTn_mm (k := (tNr c n p_ - (tNq c n p_ + 1))) (j := i + 1 - (tNr c n p_ - (tNq c n p_ + 1))) (by omega) xv.1 xv.2
        rw [show i + 1 - (tNr c n p_ - (tNq c n p_ + 1)) = (i - (tNr c n p_ - (tNq c n p_ + 1))) + 1 by omega] at xm
        have e : tTn ((i - (tNr c n p_ - (tNq c n p_ + 1))) + 1) = 10 * tTn (i - (tNr c n p_ - (tNq c n p_ + 1))) := rfl
        rw [e, Int.mul_assoc, ← hx] at xm
        exact xm)
