/-! xu -/
def T_X_exa : ZT := fun args I L R S Q => ∃ (k : Nat) (w : List CuR), args = [zvr k] ∧ (zSh S) ∧ (zRs R) ∧ (zDy zT16 zF16 k R S) ∧ (zDh k w I L) ∧ (w.length ≤ 60) ∧ (cuG w) ∧ (I k 13 = cuHc w) ∧ (∀ p : Nat, p < cuHc w → I (k + 13) p = p) ∧ (cuHc w ≤ 8) ∧ ∀ (I' : ZI) (L' : ZI), (∀ p : Nat, p < cuHc w → I' (k + 14) p = cuOr w p) → (∀ c j : Nat, ¬ c = k + 14 → I' c j = I c j) → (∀ c j : Nat, ¬ c = k + 15 → L' c j = L c j) → Q none I' L' R S
theorem sn_X_exa : ZSnd 4 16 19 T_X_exa := ZSnd.loops (zT16_19 3) (by
  rintro args I L R S Q hz ⟨k, w, rfl, hS, hR, hd, hDh, hl, hG, h13, hrow, h8, hQ⟩
  have hk5 := hd.1
  obtain ⟨⟨hh4, hh1⟩, hhi⟩ := id hDh
  have hc60 := cuHc_l hl
  have hp8 := cuHp8 h8
  have hsh : zshl 1 (cuHc w : Int) = ((2 ^ cuHc w : Nat) : Int) := zshl1 (cuHc w) (by omega)
  refine ⟨[11, 17, 53, 174, 192], fun nM tM lsM stM I1 L1 R1 S1 => match tM with
      | 11 => ∃ (A : Nat) (d : Nat), nM = ((300 + d), 100, 0) ∧ lsM = [some (zvr (k)), some (zvi (A)), some (zvi (d)), none, none, none, none, none, none, none, none] ∧ stM = [] ∧ I1 = I ∧ R1 = R ∧ S1 = S ∧ (A + 1 = 2 ^ cuHc w ∧ A ≤ 255) ∧ (d ≤ A) ∧ (zUl k w d L1) ∧ (∀ c j : Nat, ¬ c = k + 15 → L1 c j = L c j)
      | 17 => ∃ (A : Nat) (d : Nat) (l : Nat), nM = ((300 + d), (50 - l), 99) ∧ lsM = [some (zvr (k)), some (zvi (A)), some (zvi (d)), some (zvi (l)), none, none, none, none, none, none, none] ∧ stM = [] ∧ I1 = I ∧ R1 = R ∧ S1 = S ∧ (A + 1 = 2 ^ cuHc w ∧ A ≤ 255) ∧ (0 < d ∧ d ≤ A) ∧ (l ≤ cuHc w) ∧ (zUl k w d L1) ∧ (∀ x : Nat, x < l → cuBt d x → L1 (k + 15) (8 * d + x) = cuTt w (cuHc w) d x) ∧ (∀ c j : Nat, ¬ c = k + 15 → L1 c j = L c j)
      | 53 => ∃ (A : Nat) (d : Nat) (l : Nat) (b : Int) (b0 : Int) (n : Nat), nM = ((300 + d), (50 - l), (50 - n)) ∧ lsM = [some (zvr (k)), some (zvi (A)), some (zvi (d)), some (zvi (l)), some (zvl (b)), none, some (zvi (n)), none, none, none, none] ∧ stM = [] ∧ I1 = I ∧ R1 = R ∧ S1 = S ∧ (A + 1 = 2 ^ cuHc w ∧ A ≤ 255) ∧ (0 < d ∧ d ≤ A) ∧ (l < cuHc w) ∧ (cuBt d l) ∧ (n ≤ cuHc w) ∧ ((d = A ∧ b0 = 0) ∨ (d ≠ A ∧ b0 = -1)) ∧ (b = cuBs (cuBt d) (cuTb w (cuHc w) d l) b0 n) ∧ (-1 ≤ b ∧ b ≤ 3900000) ∧ (zUl k w d L1) ∧ (∀ x : Nat, x < l → cuBt d x → L1 (k + 15) (8 * d + x) = cuTt w (cuHc w) d x) ∧ (∀ c j : Nat, ¬ c = k + 15 → L1 c j = L c j)
      | 174 => ∃ (A : Nat) (e : Nat) (f : Int) (m : Nat), nM = ((70 - m), 99, 0) ∧ lsM = [some (zvr (k)), some (zvi (A)), some (zvi (e)), some (zvi (f)), some (zvi (m)), none, none, none, none, none, none] ∧ stM = [] ∧ R1 = R ∧ S1 = S ∧ (m ≤ cuHc w) ∧ ((e = (cuFw w (cuHc w) m).1 ∧ f = (cuFw w (cuHc w) m).2) ∧ e < 2 ^ cuHc w ∧ (f = -1 ∨ (0 ≤ f ∧ f < cuHc w))) ∧ (zUl k w 0 L1) ∧ (∀ p : Nat, p < m → I1 (k + 14) p = (cuFw w (cuHc w) (p + 1)).2) ∧ (∀ c j : Nat, ¬ c = k + 14 → I1 c j = I c j) ∧ (∀ c j : Nat, ¬ c = k + 15 → L1 c j = L c j)
      | 192 => ∃ (A : Nat) (e : Nat) (f : Int) (m : Nat) (r : Int) (v : Int) (n : Nat), nM = ((70 - m), (50 - n), 0) ∧ lsM = [some (zvr (k)), some (zvi (A)), some (zvi (e)), some (zvi (f)), some (zvi (m)), some (zvi (r)), some (zvl (v)), none, some (zvi (n)), none, none] ∧ stM = [] ∧ R1 = R ∧ S1 = S ∧ (m < cuHc w) ∧ (n ≤ cuHc w) ∧ ((e = (cuFw w (cuHc w) m).1 ∧ f = (cuFw w (cuHc w) m).2) ∧ e < 2 ^ cuHc w ∧ (f = -1 ∨ (0 ≤ f ∧ f < cuHc w))) ∧ (r = cuMg (cuBt e) (cuTb w (cuHc w) e f) n) ∧ (r = -1 ∨ (0 ≤ r ∧ r < n)) ∧ (r ≠ -1 → v = (cuTb w (cuHc w) e f) r.toNat) ∧ (0 ≤ v ∧ v ≤ 3900000) ∧ (zUl k w 0 L1) ∧ (∀ p : Nat, p < m → I1 (k + 14) p = (cuFw w (cuHc w) (p + 1)).2) ∧ (∀ c j : Nat, ¬ c = k + 14 → I1 c j = I c j) ∧ (∀ c j : Nat, ¬ c = k + 15 → L1 c j = L c j)
      | _ => False, rfl, ?_, ⟨?_, ?_, ?_, ?_, ?_, True.intro⟩⟩
  · refine And.intro (zDX hd 0 rfl) (zrd (v := (cuHc w)) h13 ?_)
    refine ⟨((300 + ((2 ^ cuHc w - 1) : Nat)), 100, 0), [some (zvr (k)), some (zvi (((2 ^ cuHc w - 1) : Nat))), some (zvi (((2 ^ cuHc w - 1) : Nat))), none, none, none, none, none, none, none, none], ⟨rfl, (congrArg (fun z => some (zvi z)) (by rw [hsh]; congr 2; omega)), (congrArg (fun z => some (zvi z)) (by rw [hsh]; congr 2; omega)), rfl⟩, (2 ^ cuHc w - 1), (2 ^ cuHc w - 1), rfl, rfl, rfl, rfl, rfl, rfl, (by omega), (by omega), (fun d l h1 h2 h3 => by omega), (fun c j h0 => rfl)⟩
  · rintro nM lsM stM I1 L1 R1 S1 hz1 ⟨A, d, rfl, rfl, rfl, rfl, rfl, rfl, hA, hdA, hUl, frL⟩
    refine And.intro (by omega) ⟨fun h12 => ?_, fun h12 => ?_⟩
    · refine ⟨((70 - (0 : Nat)), 99, 0), zlt6 (by omega), [some (zvr (k)), some (zvi (A)), some (zvi ((0 : Nat))), some (zvi (((-1) : Int))), some (zvi ((0 : Nat))), none, none, none, none, none, none], ⟨rfl, rfl, rfl, (congrArg (fun z => some (zvi z)) (by omega)), rfl, rfl⟩, A, 0, (-1), 0, rfl, rfl, rfl, rfl, rfl, (by omega), ⟨⟨rfl, rfl⟩, by omega, Or.inl rfl⟩, (by have e : d = 0 := (by omega); subst e; exact hUl), (fun p h => absurd h (Nat.not_lt_zero p)), (fun c j h0 => rfl), (fun c j h0 => ((frL c j h0).trans rfl))⟩
    · refine ⟨((300 + d), (50 - (0 : Nat)), 99), zlt6 (by omega), [some (zvr (k)), some (zvi (A)), some (zvi (d)), some (zvi ((0 : Nat))), none, none, none, none, none, none, none], ⟨rfl, rfl, rfl, rfl, rfl⟩, A, d, 0, rfl, rfl, rfl, rfl, rfl, rfl, (by first | exact hA | (clear hQ; grind [xu])), (by omega), (by omega), hUl, (fun x h => absurd h (Nat.not_lt_zero x)), (fun c j h0 => ((frL c j h0).trans rfl))⟩
  · rintro nM lsM stM I1 L1 R1 S1 hz1 ⟨A, d, l, rfl, rfl, rfl, rfl, rfl, rfl, hA, hdA, hll, hUl, hl2, frL⟩
    refine And.intro (zDX hd 0 rfl) (zrd (v := (cuHc w)) h13 ?_)
    refine And.intro ⟨(by omega), (by omega)⟩ ⟨fun h22 => ?_, fun h22 => ?_⟩
    · refine ⟨((300 + ((d - 1) : Nat)), 100, 0), zlt6 (by omega), [some (zvr (k)), some (zvi (A)), some (zvi (((d - 1) : Nat))), none, none, none, none, none, none, none, none], ⟨rfl, rfl, (congrArg (fun z => some (zvi z)) (by omega)), rfl⟩, A, (d - 1), rfl, rfl, rfl, rfl, rfl, rfl, (by first | exact hA | (clear hQ; grind [xu])), (by omega), ?_, (fun c j h0 => ((frL c j h0).trans rfl))⟩
      · intro d2 l2 h1 h2 h3 h4
        by_cases e : d2 = d
        · subst e
          exact hl2 l2 (by omega) h4
        · exact hUl d2 l2 (by omega) h2 h3 h4
    · have t22 : zand (zshr (d : Int) (l : Int)) 1 = ((d / 2 ^ l % 2 : Nat) : Int) := (cuBt_z d (by omega) l (by omega))
      have b29 : (zand (zshr d l) 1) = (zshr d l) % 2 := zand1 _
      refine And.intro zr_and ⟨fun h30 => ?_, fun h30 => ?_⟩
      · have t30 : cuBt d l := (by unfold cuBt; omega)
        refine And.intro ⟨(by omega), (by omega)⟩ ⟨fun h38 => ?_, fun h38 => ?_⟩
        · refine ⟨((300 + d), (50 - l), (50 - (0 : Nat))), zlt6 (by omega), [some (zvr (k)), some (zvi (A)), some (zvi (d)), some (zvi (l)), some (zvl (((-1) : Int))), none, some (zvi ((0 : Nat))), none, none, none, none], ⟨rfl, rfl, rfl, rfl, (congrArg (fun z => some (zvl z)) (by omega)), rfl, rfl⟩, A, d, l, (-1), _, 0, rfl, rfl, rfl, rfl, rfl, rfl, (by first | exact hA | (clear hQ; grind [xu])), (by omega), (by omega), t30, (by omega), (by omega), (cuBs_0).symm, (by omega), hUl, hl2, (fun c j h0 => ((frL c j h0).trans rfl))⟩
        · refine ⟨((300 + d), (50 - l), (50 - (0 : Nat))), zlt6 (by omega), [some (zvr (k)), some (zvi (A)), some (zvi (d)), some (zvi (l)), some (zvl ((0 : Int))), none, some (zvi ((0 : Nat))), none, none, none, none], ⟨rfl, rfl, rfl, rfl, rfl, rfl, rfl⟩, A, d, l, 0, _, 0, rfl, rfl, rfl, rfl, rfl, rfl, (by first | exact hA | (clear hQ; grind [xu])), (by omega), (by omega), t30, (by omega), (by omega), (cuBs_0).symm, (by omega), hUl, hl2, (fun c j h0 => ((frL c j h0).trans rfl))⟩
      · have t30 : ¬ cuBt d l := (by unfold cuBt; omega)
        refine ⟨((300 + d), (50 - (l + 1)), 99), zlt6 (by omega), [some (zvr (k)), some (zvi (A)), some (zvi (d)), some (zvi ((l + 1))), none, none, none, none, none, none, none], ⟨rfl, rfl, rfl, rfl, rfl⟩, A, d, (l + 1), rfl, rfl, rfl, rfl, rfl, rfl, (by first | exact hA | (clear hQ; grind [xu])), (by omega), (by omega), hUl, (fun x h1 h2 => by by_cases e : x = l; (subst e; exact absurd h2 t30); exact hl2 x (by omega) h2), (fun c j h0 => ((frL c j h0).trans rfl))⟩
  · rintro nM lsM stM I1 L1 R1 S1 hz1 ⟨A, d, l, b, b0, n, rfl, rfl, rfl, rfl, rfl, rfl, hA, hdA, hll, hbl, hn, hb0, hb, hbb, hUl, hl2, frL⟩
    refine And.intro (zDX hd 0 rfl) (zrd (v := (cuHc w)) h13 ?_)
    refine And.intro ⟨(by omega), (by omega)⟩ ⟨fun h59 => ?_, fun h59 => ?_⟩
    · refine And.intro (zDX hd 0 rfl) (zrdR (v := some (k + 15)) (zDR hd 14 rfl) ?_)
      refine And.intro ⟨(by show 40 ≤ _; omega), (zDP hd 15 rfl rfl (by omega) (by omega))⟩ ⟨_, zW6i (by omega), ?_⟩
      refine ⟨((300 + d), (50 - (l + 1)), 99), zlt6 (by omega), [some (zvr (k)), some (zvi (A)), some (zvi (d)), some (zvi ((l + 1))), none, none, none, none, none, none, none], ⟨rfl, rfl, rfl, rfl, rfl⟩, A, d, (l + 1), rfl, rfl, rfl, rfl, rfl, rfl, (by first | exact hA | (clear hQ; grind [xu])), (by omega), (by omega), (fun d2 l2 h1 h2 h3 h4 => zxs (by omega) (hUl d2 l2 h1 h2 h3 h4)), ?_, (fun c j h0 => (zxu h0 ((frL c j h0).trans rfl)))⟩
      · intro x h1 h2
        by_cases e : x = l
        · subst e
          refine (zxe' (by omega)).trans ?_
          have e9 : n = cuHc w := by omega
          have hb9 := hb
          rw [e9] at hb9
          by_cases z : d = A
          · rw [cuTt_full (by omega) (by omega), hb9]
            rw [cuBs_full (fun h9 q9 => by have y := cuBt_full (cuHc w) (by omega) h9 q9; rw [← show A = 2 ^ cuHc w - 1 by omega, ← z] at y; exact y)]
            omega
          · exact (cuTt_some (by omega) (by omega) (by rw [hb9, show b0 = -1 by omega]) (by omega)).symm
        · exact zxs (by omega) (hl2 x (by omega) h2)
    · have t59 : zand (zshr (d : Int) (n : Int)) 1 = ((d / 2 ^ n % 2 : Nat) : Int) := (cuBt_z d (by omega) n (by omega))
      have b67 : (zand (zshr d n) 1) = (zshr d n) % 2 := zand1 _
      refine And.intro ⟨zr_and, (zRb rfl)⟩ ⟨fun h69 => ?_, fun h69 => ?_⟩
      · have t69 : ¬ cuBt d n := (by unfold cuBt; omega)
        have t69b : d < A := (by by_cases z : d = A; (exfalso; have y := cuBt_full (cuHc w) (by omega) n (by omega); rw [← show A = 2 ^ cuHc w - 1 by omega, ← z] at y; exact t69 y); omega)
        have t69bb : zor (d : Int) (zshl 1 (n : Int)) = ((d + 2 ^ n : Nat) : Int) ∧ d + 2 ^ n < 2 ^ cuHc w ∧ d < d + 2 ^ n := ⟨by rcases cuBt_q d (by omega) n (by omega) with y9 | y9; exact absurd y9 (by assumption); exact y9.2, by rcases cuBt_N (cuHc w) (by omega) d (by omega) n (by omega) with y9 | y9; exact absurd y9 (by assumption); exact y9, by have := Nat.two_pow_pos n; omega⟩
        refine And.intro (zDX hd 0 rfl) (zrdR (v := some (k + 13)) (zDR hd 12 rfl) ?_)
        refine And.intro (zDP hd 13 rfl rfl (by omega) (by omega)) (fun v81 e81 r81 => ?_)
        have f81 : v81 = l := (e81.trans ((congrArg (I1 (k + 13)) (show _ = l by omega)).trans (hrow l (by omega))))
        refine And.intro (zDX hd 0 rfl) (zrdR (v := some (k + 13)) (zDR hd 12 rfl) ?_)
        refine And.intro (zDP hd 13 rfl rfl (by omega) (by omega)) (fun v88 e88 r88 => ?_)
        have f88 : v88 = n := (e88.trans ((congrArg (I1 (k + 13)) (show _ = n by omega)).trans (hrow n (by omega))))
        refine And.intro (zDX hd 0 rfl) ⟨_, sn_X_way.up (by decide), ?_⟩
        refine ⟨_, w, (v81 : Int), (v88 : Int), n, rfl, hS, hR, hd, (by first | exact (zDh_fr hDh (fun c j h => rfl) (fun c j h => ((frL c j (by omega)).trans rfl))) | (clear hQ; grind [xu])), (by omega), (Or.inr (by omega)), (by omega), (by first | exact hG | (clear hQ; grind [xu])), ?_⟩
        intro v89o p89hv p89bhv2
        refine And.intro (zDX hd 0 rfl) (zrdR (v := some (k + 15)) (zDR hd 14 rfl) ?_)
        refine And.intro (zDP hd 15 rfl rfl (by omega) (by omega)) (fun v108 e108 r108 => ?_)
        have f108 : v108 = cuTt w (cuHc w) (d + 2 ^ n) n := (e108.trans ((congrArg (L1 (k + 15)) (show _ = 8 * (d + 2 ^ n) + n by omega)).trans (hUl (d + 2 ^ n) n (by omega) (by omega) (by omega) (by rcases cuBt_on d (by omega) n (by omega) with y9 | y9; exact absurd y9 (by assumption); exact y9))))
        have f108b : v89o + v108 = cuTb w (cuHc w) d l n ∧ 0 ≤ v89o + v108 ∧ v89o + v108 ≤ 3900000 := (by have z := cuTb_b (w := w) (N := cuHc w) (d := d) (l := (l : Int)) (n := n) hG rfl (Or.inr (by omega)) (by omega); have z2 : cuTb w (cuHc w) d l n = cuWy w l n + cuTt w (cuHc w) (d + 2 ^ n) n := rfl; have z3 : v89o = cuWy w l n := (by have y := p89hv; rw [show v81 = (l : Int) by omega] at y; exact y); omega)
        refine ⟨_, _, ⟨zW6i (by omega), zW6i (zRL rfl)⟩, fun z115 c115 => ?_⟩
        refine And.intro c115.2.2 ⟨fun h116 => ?_, fun h116 => ?_⟩
        · refine ⟨((300 + d), (50 - l), (50 - (n + 1))), zlt6 (by omega), [some (zvr (k)), some (zvi (A)), some (zvi (d)), some (zvi (l)), some (zvl ((v89o + v108))), none, some (zvi ((n + 1))), none, none, none, none], ⟨rfl, rfl, rfl, rfl, rfl, rfl, rfl⟩, A, d, l, (v89o + v108), b0, (n + 1), rfl, rfl, rfl, rfl, rfl, rfl, (by first | exact hA | (clear hQ; grind [xu])), (by omega), (by omega), hbl, (by omega), (by first | exact hb0 | (clear hQ; grind [xu])), ?_, (by omega), hUl, hl2, (fun c j h0 => ((frL c j h0).trans rfl))⟩
          · have hg : ∀ m9, m9 < n → 0 ≤ cuTb w (cuHc w) d l m9 := fun m9 h9 => (cuTb_b (w := w) (N := cuHc w) (d := d) (l := (l : Int)) (n := m9) hG rfl (Or.inr (by omega)) (by omega)).1
            first
            | exact hb.trans (cuBs_s t69).symm
            | exact f108b.1.trans (cuBs_v t69 (by rw [← hb]; omega) hg).symm
            | exact hb.trans (cuBs_k (by rw [← hb]; omega) (by omega)).symm
        · refine ⟨_, _, ⟨zW6i (by omega), zW6i (by omega)⟩, fun z123 c123 => ?_⟩
          refine And.intro c123.2.2 ⟨fun h124 => ?_, fun h124 => ?_⟩
          · refine ⟨((300 + d), (50 - l), (50 - (n + 1))), zlt6 (by omega), [some (zvr (k)), some (zvi (A)), some (zvi (d)), some (zvi (l)), some (zvl (b)), none, some (zvi ((n + 1))), none, none, none, none], ⟨rfl, rfl, rfl, rfl, rfl, rfl, rfl⟩, A, d, l, b, b0, (n + 1), rfl, rfl, rfl, rfl, rfl, rfl, (by first | exact hA | (clear hQ; grind [xu])), (by omega), (by omega), hbl, (by omega), (by first | exact hb0 | (clear hQ; grind [xu])), ?_, (by omega), hUl, hl2, (fun c j h0 => ((frL c j h0).trans rfl))⟩
            · have hg : ∀ m9, m9 < n → 0 ≤ cuTb w (cuHc w) d l m9 := fun m9 h9 => (cuTb_b (w := w) (N := cuHc w) (d := d) (l := (l : Int)) (n := m9) hG rfl (Or.inr (by omega)) (by omega)).1
              first
              | exact hb.trans (cuBs_s t69).symm
              | exact f108b.1.trans (cuBs_v t69 (by rw [← hb]; omega) hg).symm
              | exact hb.trans (cuBs_k (by rw [← hb]; omega) (by omega)).symm
          · refine ⟨((300 + d), (50 - l), (50 - (n + 1))), zlt6 (by omega), [some (zvr (k)), some (zvi (A)), some (zvi (d)), some (zvi (l)), some (zvl ((v89o + v108))), none, some (zvi ((n + 1))), none, none, none, none], ⟨rfl, rfl, rfl, rfl, rfl, rfl, rfl⟩, A, d, l, (v89o + v108), b0, (n + 1), rfl, rfl, rfl, rfl, rfl, rfl, (by first | exact hA | (clear hQ; grind [xu])), (by omega), (by omega), hbl, (by omega), (by first | exact hb0 | (clear hQ; grind [xu])), ?_, (by omega), hUl, hl2, (fun c j h0 => ((frL c j h0).trans rfl))⟩
            · have hg : ∀ m9, m9 < n → 0 ≤ cuTb w (cuHc w) d l m9 := fun m9 h9 => (cuTb_b (w := w) (N := cuHc w) (d := d) (l := (l : Int)) (n := m9) hG rfl (Or.inr (by omega)) (by omega)).1
              first
              | exact hb.trans (cuBs_s t69).symm
              | exact f108b.1.trans (cuBs_v t69 (by rw [← hb]; omega) hg).symm
              | exact hb.trans (cuBs_k (by rw [← hb]; omega) (by omega)).symm
      · have t69 : cuBt d n := (by unfold cuBt; omega)
        refine ⟨((300 + d), (50 - l), (50 - (n + 1))), zlt6 (by omega), [some (zvr (k)), some (zvi (A)), some (zvi (d)), some (zvi (l)), some (zvl (b)), none, some (zvi ((n + 1))), none, none, none, none], ⟨rfl, rfl, rfl, rfl, rfl, rfl, rfl⟩, A, d, l, b, b0, (n + 1), rfl, rfl, rfl, rfl, rfl, rfl, (by first | exact hA | (clear hQ; grind [xu])), (by omega), (by omega), hbl, (by omega), (by first | exact hb0 | (clear hQ; grind [xu])), ?_, (by omega), hUl, hl2, (fun c j h0 => ((frL c j h0).trans rfl))⟩
        · have hg : ∀ m9, m9 < n → 0 ≤ cuTb w (cuHc w) d l m9 := fun m9 h9 => (cuTb_b (w := w) (N := cuHc w) (d := d) (l := (l : Int)) (n := m9) hG rfl (Or.inr (by omega)) (by omega)).1
          first
          | exact hb.trans (cuBs_s t69).symm
          | exact f108b.1.trans (cuBs_v t69 (by rw [← hb]; omega) hg).symm
          | exact hb.trans (cuBs_k (by rw [← hb]; omega) (by omega)).symm
  · rintro nM lsM stM I1 L1 R1 S1 hz1 ⟨A, e, f, m, rfl, rfl, rfl, rfl, rfl, hm, he, hUl, ho, fr, frL⟩
    refine And.intro (zDX hd 0 rfl) (zrd (v := (cuHc w)) ((fr k 13 (by omega)).trans h13) ?_)
    refine And.intro ⟨(by omega), (by omega)⟩ ⟨fun h180 => ?_, fun h180 => ?_⟩
    · refine hQ _ _ (fun p hp => by unfold cuOr; rw [if_pos h8]; exact ho p (by omega)) (fun c j h0 => ((fr c j h0).trans rfl)) (fun c j h0 => ((frL c j h0).trans rfl))
    · refine ⟨((70 - m), (50 - (0 : Nat)), 0), zlt6 (by omega), [some (zvr (k)), some (zvi (A)), some (zvi (e)), some (zvi (f)), some (zvi (m)), some (zvi (((-1) : Int))), some (zvl ((0 : Int))), none, some (zvi ((0 : Nat))), none, none], ⟨rfl, rfl, rfl, rfl, rfl, (congrArg (fun z => some (zvi z)) (by omega)), rfl, rfl, rfl⟩, A, e, f, m, (-1), 0, 0, rfl, rfl, rfl, rfl, rfl, (by omega), (by omega), he, rfl, (by clear hQ; grind [xu]), (fun h => absurd rfl h), (by omega), hUl, ho, (fun c j h0 => ((fr c j h0).trans rfl)), (fun c j h0 => ((frL c j h0).trans rfl))⟩
  · rintro nM lsM stM I1 L1 R1 S1 hz1 ⟨A, e, f, m, r, v, n, rfl, rfl, rfl, rfl, rfl, hm, hn, he, hr, hr2, hv, hvb, hUl, ho, fr, frL⟩
    have hrb := cuMg_b (U := cuBt e) (g := (cuTb w (cuHc w) e f)) n
    have hib := cuFw_b (w := w) (show cuHc w < 9 by omega) (i := m + 1) (by omega)
    have hie : (cuFw w (cuHc w) (m + 1)).2 = cuTn w (cuHc w) (cuFw w (cuHc w) m).1 (cuFw w (cuHc w) m).2 := rfl
    have hie1 : (cuFw w (cuHc w) (m + 1)).1 = (cuFw w (cuHc w) m).1 + 2 ^ (cuTn w (cuHc w) (cuFw w (cuHc w) m).1 (cuFw w (cuHc w) m).2).toNat := rfl
    rw [← he.1.1, ← he.1.2] at hie hie1
    refine And.intro (zDX hd 0 rfl) (zrd (v := (cuHc w)) ((fr k 13 (by omega)).trans h13) ?_)
    refine And.intro ⟨(by omega), (by omega)⟩ ⟨fun h198 => ?_, fun h198 => ?_⟩
    · have t198 : r = cuTn w (cuHc w) e f ∧ 0 ≤ r ∧ r + 1 ≤ cuHc w := (by have e9 : n = cuHc w := (by omega); have z := hr; rw [e9] at z; have y := hib.2.2 (by omega); rw [hie] at y; have x : r = cuTn w (cuHc w) e f := z; rw [x]; omega)
      have t198b : ¬ cuBt e r.toNat := (by rcases hrb with z | z; (exfalso; omega); (rw [hr]; exact z.2.2))
      have t198bb : zor (e : Int) (zshl 1 r) = ((e + 2 ^ r.toNat : Nat) : Int) ∧ e + 2 ^ r.toNat < 2 ^ cuHc w := ⟨by rcases cuBt_q e (by omega) r.toNat (by omega) with y9 | y9; exact absurd y9 t198b; (have y8 := y9.2; rw [Int.toNat_of_nonneg t198.2.1] at y8; exact y8), by rcases cuBt_N (cuHc w) (by omega) e (by omega) r.toNat (by omega) with y9 | y9; exact absurd y9 t198b; exact y9⟩
      refine And.intro (zDX hd 0 rfl) (zrdR (v := some (k + 14)) (zDR hd 13 rfl) ?_)
      refine And.intro (zDX hd 0 rfl) (zrdR (v := some (k + 13)) (zDR hd 12 rfl) ?_)
      refine And.intro (zDP hd 13 rfl rfl (by omega) (by omega)) (fun v303 e303 r303 => ?_)
      have f303 : v303 = r.toNat := (e303.trans ((fr (k + 13) _ (by omega)).trans ((congrArg (I (k + 13)) (show _ = r.toNat by omega)).trans (hrow r.toNat (by omega)))))
      refine And.intro ⟨(by show 40 ≤ _; omega), (zDP hd 14 rfl rfl (by omega) (by omega))⟩ ⟨_, (zWi r303), ?_⟩
      refine ⟨((70 - (m + 1)), 99, 0), zlt6 (by omega), [some (zvr (k)), some (zvi (A)), some (zvi ((e + 2 ^ r.toNat))), some (zvi (r)), some (zvi ((m + 1))), none, none, none, none, none, none], ⟨rfl, rfl, (congrArg (fun z => some (zvi z)) (by rw [t198bb.1, Int.natCast_add, Int.natCast_pow]; rfl)), rfl, rfl, rfl⟩, A, (e + 2 ^ r.toNat), r, (m + 1), rfl, rfl, rfl, rfl, rfl, (by omega), ⟨⟨by rw [hie1, ← t198.1], by rw [hie]; exact t198.1⟩, t198bb.2, Or.inr (by omega)⟩, hUl, ?_, (fun c j h0 => (zxu h0 ((fr c j h0).trans rfl))), (fun c j h0 => ((frL c j h0).trans rfl))⟩
      · intro p hp
        by_cases q : p = m
        · subst q
          refine (zxe' (by omega)).trans ?_
          rw [hie, ← t198.1]
          omega
        · exact zxs (by omega) (ho p (by omega))
    · have t198 : zand (zshr (e : Int) (n : Int)) 1 = ((e / 2 ^ n % 2 : Nat) : Int) := (cuBt_z e (by omega) n (by omega))
      have b206 : (zand (zshr e n) 1) = (zshr e n) % 2 := zand1 _
      refine And.intro ⟨zr_and, (zRb rfl)⟩ ⟨fun h208 => ?_, fun h208 => ?_⟩
      · have t208 : ¬ cuBt e n := (by unfold cuBt; omega)
        have t208b : zor (e : Int) (zshl 1 (n : Int)) = ((e + 2 ^ n : Nat) : Int) ∧ e + 2 ^ n < 2 ^ cuHc w ∧ e < e + 2 ^ n := ⟨by rcases cuBt_q e (by omega) n (by omega) with y9 | y9; exact absurd y9 (by assumption); exact y9.2, by rcases cuBt_N (cuHc w) (by omega) e (by omega) n (by omega) with y9 | y9; exact absurd y9 (by assumption); exact y9, by have := Nat.two_pow_pos n; omega⟩
        refine And.intro ⟨(by omega), (zRb rfl)⟩ ⟨fun h217 => ?_, fun h217 => ?_⟩
        · refine And.intro (zDX hd 0 rfl) (zrdR (v := some (k + 13)) (zDR hd 12 rfl) ?_)
          refine And.intro (zDP hd 13 rfl rfl (by omega) (by omega)) (fun v229 e229 r229 => ?_)
          have f229 : v229 = f.toNat := (e229.trans ((fr (k + 13) _ (by omega)).trans ((congrArg (I (k + 13)) (show _ = f.toNat by omega)).trans (hrow f.toNat (by omega)))))
          refine And.intro (zDX hd 0 rfl) (zrdR (v := some (k + 13)) (zDR hd 12 rfl) ?_)
          refine And.intro (zDP hd 13 rfl rfl (by omega) (by omega)) (fun v236 e236 r236 => ?_)
          have f236 : v236 = n := (e236.trans ((fr (k + 13) _ (by omega)).trans ((congrArg (I (k + 13)) (show _ = n by omega)).trans (hrow n (by omega)))))
          refine And.intro (zDX hd 0 rfl) ⟨_, sn_X_way.up (by decide), ?_⟩
          refine ⟨_, w, (v229 : Int), (v236 : Int), n, rfl, hS, hR, hd, (by first | exact (zDh_fr hDh (fun c j h => ((fr c j (by omega)).trans rfl)) (fun c j h => ((frL c j (by omega)).trans rfl))) | (clear hQ; grind [xu])), (by omega), (by omega), (by omega), (by first | exact hG | (clear hQ; grind [xu])), ?_⟩
          intro v237o p237hv p237bhv2
          refine And.intro (zDX hd 0 rfl) (zrdR (v := some (k + 15)) (zDR hd 14 rfl) ?_)
          refine And.intro (zDP hd 15 rfl rfl (by omega) (by omega)) (fun v256 e256 r256 => ?_)
          have f256 : v256 = cuTt w (cuHc w) (e + 2 ^ n) n := (e256.trans ((congrArg (L1 (k + 15)) (show _ = 8 * (e + 2 ^ n) + n by omega)).trans (hUl (e + 2 ^ n) n (by omega) (by omega) (by omega) (by rcases cuBt_on e (by omega) n (by omega) with y9 | y9; exact absurd y9 (by assumption); exact y9))))
          have f256b : v237o + v256 = cuTb w (cuHc w) e f n ∧ 0 ≤ v237o + v256 ∧ v237o + v256 ≤ 3900000 := (by have z := cuTb_b (w := w) (N := cuHc w) (d := e) (l := f) (n := n) hG rfl he.2.2 (by omega); have z2 : cuTb w (cuHc w) e f n = cuWy w f n + cuTt w (cuHc w) (e + 2 ^ n) n := rfl; have z3 : v237o = cuWy w f n := (by have y := p237hv; first | exact y | (rw [show f = -1 by omega]; exact y) | (rw [show v229 = f by omega] at y; exact y)); omega)
          refine And.intro ⟨(by omega), (zRb rfl)⟩ ⟨fun h263 => ?_, fun h263 => ?_⟩
          · refine ⟨((70 - m), (50 - (n + 1)), 0), zlt6 (by omega), [some (zvr (k)), some (zvi (A)), some (zvi (e)), some (zvi (f)), some (zvi (m)), some (zvi (n)), some (zvl ((v237o + v256))), none, some (zvi ((n + 1))), none, none], ⟨rfl, rfl, rfl, rfl, rfl, rfl, rfl, rfl, rfl⟩, A, e, f, m, n, (v237o + v256), (n + 1), rfl, rfl, rfl, rfl, rfl, (by omega), (by omega), he, ?_, (by first | exact hr2 | (clear hQ; grind [xu])), (fun h => by first | exact hv h | (rw [Int.toNat_natCast]; exact f256b.1)), (by omega), hUl, ho, (fun c j h0 => ((fr c j h0).trans rfl)), (fun c j h0 => ((frL c j h0).trans rfl))⟩
            · first
              | exact hr.trans (cuMg_n (fun q => q.1 t208)).symm
              | exact Eq.symm (cuMg_y ⟨t208, Or.inl (by omega)⟩)
              | exact Eq.symm (cuMg_y ⟨t208, Or.inr (by rw [← hr, ← hv (by omega), ← f256b.1]; omega)⟩)
              | (rw [cuMg_n]
                 · exact hr
                 · rintro ⟨_, q | q⟩
                   · omega
                   · rw [← hr, ← hv (by omega), ← f256b.1] at q; omega)
          · refine ⟨_, _, ⟨zW6i (by omega), zW6i (by omega)⟩, fun z270 c270 => ?_⟩
            refine And.intro c270.2.2 ⟨fun h271 => ?_, fun h271 => ?_⟩
            · refine ⟨((70 - m), (50 - (n + 1)), 0), zlt6 (by omega), [some (zvr (k)), some (zvi (A)), some (zvi (e)), some (zvi (f)), some (zvi (m)), some (zvi (n)), some (zvl ((v237o + v256))), none, some (zvi ((n + 1))), none, none], ⟨rfl, rfl, rfl, rfl, rfl, rfl, rfl, rfl, rfl⟩, A, e, f, m, n, (v237o + v256), (n + 1), rfl, rfl, rfl, rfl, rfl, (by omega), (by omega), he, ?_, (by first | exact hr2 | (clear hQ; grind [xu])), (fun h => by first | exact hv h | (rw [Int.toNat_natCast]; exact f256b.1)), (by omega), hUl, ho, (fun c j h0 => ((fr c j h0).trans rfl)), (fun c j h0 => ((frL c j h0).trans rfl))⟩
              · first
                | exact hr.trans (cuMg_n (fun q => q.1 t208)).symm
                | exact Eq.symm (cuMg_y ⟨t208, Or.inl (by omega)⟩)
                | exact Eq.symm (cuMg_y ⟨t208, Or.inr (by rw [← hr, ← hv (by omega), ← f256b.1]; omega)⟩)
                | (rw [cuMg_n]
                   · exact hr
                   · rintro ⟨_, q | q⟩
                     · omega
                     · rw [← hr, ← hv (by omega), ← f256b.1] at q; omega)
            · refine ⟨((70 - m), (50 - (n + 1)), 0), zlt6 (by omega), [some (zvr (k)), some (zvi (A)), some (zvi (e)), some (zvi (f)), some (zvi (m)), some (zvi (r)), some (zvl (v)), none, some (zvi ((n + 1))), none, none], ⟨rfl, rfl, rfl, rfl, rfl, rfl, rfl, rfl, rfl⟩, A, e, f, m, r, v, (n + 1), rfl, rfl, rfl, rfl, rfl, (by omega), (by omega), he, ?_, (by first | exact hr2 | (clear hQ; grind [xu])), (fun h => by first | exact hv h | (rw [Int.toNat_natCast]; exact f256b.1)), (by omega), hUl, ho, (fun c j h0 => ((fr c j h0).trans rfl)), (fun c j h0 => ((frL c j h0).trans rfl))⟩
              · first
                | exact hr.trans (cuMg_n (fun q => q.1 t208)).symm
                | exact Eq.symm (cuMg_y ⟨t208, Or.inl (by omega)⟩)
                | exact Eq.symm (cuMg_y ⟨t208, Or.inr (by rw [← hr, ← hv (by omega), ← f256b.1]; omega)⟩)
                | (rw [cuMg_n]
                   · exact hr
                   · rintro ⟨_, q | q⟩
                     · omega
                     · rw [← hr, ← hv (by omega), ← f256b.1] at q; omega)
        · refine And.intro (zDX hd 0 rfl) (zrdR (v := some (k + 13)) (zDR hd 12 rfl) ?_)
          refine And.intro (zDP hd 13 rfl rfl (by omega) (by omega)) (fun v236 e236 r236 => ?_)
          have f236 : v236 = n := (e236.trans ((fr (k + 13) _ (by omega)).trans ((congrArg (I (k + 13)) (show _ = n by omega)).trans (hrow n (by omega)))))
          refine And.intro (zDX hd 0 rfl) ⟨_, sn_X_way.up (by decide), ?_⟩
          refine ⟨_, w, ((-1) : Int), (v236 : Int), n, rfl, hS, hR, hd, (by first | exact (zDh_fr hDh (fun c j h => ((fr c j (by omega)).trans rfl)) (fun c j h => ((frL c j (by omega)).trans rfl))) | (clear hQ; grind [xu])), (by omega), (by omega), (by omega), (by first | exact hG | (clear hQ; grind [xu])), ?_⟩
          intro v237o p237hv p237bhv2
          refine And.intro (zDX hd 0 rfl) (zrdR (v := some (k + 15)) (zDR hd 14 rfl) ?_)
          refine And.intro (zDP hd 15 rfl rfl (by omega) (by omega)) (fun v256 e256 r256 => ?_)
          have f256 : v256 = cuTt w (cuHc w) (e + 2 ^ n) n := (e256.trans ((congrArg (L1 (k + 15)) (show _ = 8 * (e + 2 ^ n) + n by omega)).trans (hUl (e + 2 ^ n) n (by omega) (by omega) (by omega) (by rcases cuBt_on e (by omega) n (by omega) with y9 | y9; exact absurd y9 (by assumption); exact y9))))
          have f256b : v237o + v256 = cuTb w (cuHc w) e f n ∧ 0 ≤ v237o + v256 ∧ v237o + v256 ≤ 3900000 := (by have z := cuTb_b (w := w) (N := cuHc w) (d := e) (l := f) (n := n) hG rfl he.2.2 (by omega); have z2 : cuTb w (cuHc w) e f n = cuWy w f n + cuTt w (cuHc w) (e + 2 ^ n) n := rfl; have z3 : v237o = cuWy w f n := (by have y := p237hv; first | exact y | (rw [show f = -1 by omega]; exact y) | (rw [show v229 = f by omega] at y; exact y)); omega)
          refine And.intro ⟨(by omega), (zRb rfl)⟩ ⟨fun h263 => ?_, fun h263 => ?_⟩
          · refine ⟨((70 - m), (50 - (n + 1)), 0), zlt6 (by omega), [some (zvr (k)), some (zvi (A)), some (zvi (e)), some (zvi (f)), some (zvi (m)), some (zvi (n)), some (zvl ((v237o + v256))), none, some (zvi ((n + 1))), none, none], ⟨rfl, rfl, rfl, rfl, rfl, rfl, rfl, rfl, rfl⟩, A, e, f, m, n, (v237o + v256), (n + 1), rfl, rfl, rfl, rfl, rfl, (by omega), (by omega), he, ?_, (by first | exact hr2 | (clear hQ; grind [xu])), (fun h => by first | exact hv h | (rw [Int.toNat_natCast]; exact f256b.1)), (by omega), hUl, ho, (fun c j h0 => ((fr c j h0).trans rfl)), (fun c j h0 => ((frL c j h0).trans rfl))⟩
            · first
              | exact hr.trans (cuMg_n (fun q => q.1 t208)).symm
              | exact Eq.symm (cuMg_y ⟨t208, Or.inl (by omega)⟩)
              | exact Eq.symm (cuMg_y ⟨t208, Or.inr (by rw [← hr, ← hv (by omega), ← f256b.1]; omega)⟩)
              | (rw [cuMg_n]
                 · exact hr
                 · rintro ⟨_, q | q⟩
                   · omega
                   · rw [← hr, ← hv (by omega), ← f256b.1] at q; omega)
          · refine ⟨_, _, ⟨zW6i (by omega), zW6i (by omega)⟩, fun z270 c270 => ?_⟩
            refine And.intro c270.2.2 ⟨fun h271 => ?_, fun h271 => ?_⟩
            · refine ⟨((70 - m), (50 - (n + 1)), 0), zlt6 (by omega), [some (zvr (k)), some (zvi (A)), some (zvi (e)), some (zvi (f)), some (zvi (m)), some (zvi (n)), some (zvl ((v237o + v256))), none, some (zvi ((n + 1))), none, none], ⟨rfl, rfl, rfl, rfl, rfl, rfl, rfl, rfl, rfl⟩, A, e, f, m, n, (v237o + v256), (n + 1), rfl, rfl, rfl, rfl, rfl, (by omega), (by omega), he, ?_, (by first | exact hr2 | (clear hQ; grind [xu])), (fun h => by first | exact hv h | (rw [Int.toNat_natCast]; exact f256b.1)), (by omega), hUl, ho, (fun c j h0 => ((fr c j h0).trans rfl)), (fun c j h0 => ((frL c j h0).trans rfl))⟩
              · first
                | exact hr.trans (cuMg_n (fun q => q.1 t208)).symm
                | exact Eq.symm (cuMg_y ⟨t208, Or.inl (by omega)⟩)
                | exact Eq.symm (cuMg_y ⟨t208, Or.inr (by rw [← hr, ← hv (by omega), ← f256b.1]; omega)⟩)
                | (rw [cuMg_n]
                   · exact hr
                   · rintro ⟨_, q | q⟩
                     · omega
                     · rw [← hr, ← hv (by omega), ← f256b.1] at q; omega)
            · refine ⟨((70 - m), (50 - (n + 1)), 0), zlt6 (by omega), [some (zvr (k)), some (zvi (A)), some (zvi (e)), some (zvi (f)), some (zvi (m)), some (zvi (r)), some (zvl (v)), none, some (zvi ((n + 1))), none, none], ⟨rfl, rfl, rfl, rfl, rfl, rfl, rfl, rfl, rfl⟩, A, e, f, m, r, v, (n + 1), rfl, rfl, rfl, rfl, rfl, (by omega), (by omega), he, ?_, (by first | exact hr2 | (clear hQ; grind [xu])), (fun h => by first | exact hv h | (rw [Int.toNat_natCast]; exact f256b.1)), (by omega), hUl, ho, (fun c j h0 => ((fr c j h0).trans rfl)), (fun c j h0 => ((frL c j h0).trans rfl))⟩
              · first
                | exact hr.trans (cuMg_n (fun q => q.1 t208)).symm
                | exact Eq.symm (cuMg_y ⟨t208, Or.inl (by omega)⟩)
                | exact Eq.symm (cuMg_y ⟨t208, Or.inr (by rw [← hr, ← hv (by omega), ← f256b.1]; omega)⟩)
                | (rw [cuMg_n]
                   · exact hr
                   · rintro ⟨_, q | q⟩
                     · omega
                     · rw [← hr, ← hv (by omega), ← f256b.1] at q; omega)
      · have t208 : cuBt e n := (by unfold cuBt; omega)
        refine ⟨((70 - m), (50 - (n + 1)), 0), zlt6 (by omega), [some (zvr (k)), some (zvi (A)), some (zvi (e)), some (zvi (f)), some (zvi (m)), some (zvi (r)), some (zvl (v)), none, some (zvi ((n + 1))), none, none], ⟨rfl, rfl, rfl, rfl, rfl, rfl, rfl, rfl, rfl⟩, A, e, f, m, r, v, (n + 1), rfl, rfl, rfl, rfl, rfl, (by omega), (by omega), he, ?_, (by first | exact hr2 | (clear hQ; grind [xu])), (fun h => by first | exact hv h | (rw [Int.toNat_natCast]; exact f256b.1)), (by omega), hUl, ho, (fun c j h0 => ((fr c j h0).trans rfl)), (fun c j h0 => ((frL c j h0).trans rfl))⟩
        · first
          | exact hr.trans (cuMg_n (fun q => q.1 t208)).symm
          | exact Eq.symm (cuMg_y ⟨t208, Or.inl (by omega)⟩)
          | exact Eq.symm (cuMg_y ⟨t208, Or.inr (by rw [← hr, ← hv (by omega), ← f256b.1]; omega)⟩)
          | (rw [cuMg_n]
             · exact hr
             · rintro ⟨_, q | q⟩
               · omega
               · rw [← hr, ← hv (by omega), ← f256b.1] at q; omega))
