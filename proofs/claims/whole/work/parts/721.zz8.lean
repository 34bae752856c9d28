/-! zz8 -/
def T_S_fin : ZT := fun args I L R S Q => ∃ (k : Nat) (n : Nat) (e : Nat → Int) (l : Int), args = [zvr k, zvr 42, zvi l] ∧ (zSh S) ∧ (zRs R) ∧ (zDy zT8 zF8 k R S) ∧ (k = 130 ∨ k = 134) ∧ (eTx n e) ∧ (∀ p : Nat, p < n → I 42 p = e p) ∧ (l = n) ∧ (∀ p : Nat, p < n → 0 ≤ e p) ∧ ∀ (v : Int) (I' : ZI), (v = I' k 3) → (zEt k n e I') → (zSr k 410 (ls0 e (-1) (1, 0, 0, (fun q => I (k + 2) q), (fun _ => -1))) I') → (∀ c j : Nat, ¬ (c = k ∧ j = 1) → ¬ c = k + 1 → ¬ (c = k ∧ j = 2) → ¬ (c = k ∧ j = 3) → ¬ (c = k ∧ j = 4) → ¬ c = k + 2 → ¬ c = k + 3 → I' c j = I c j) → Q (some (zvi (v))) I' L R S
theorem sn_S_fin : ZSnd 130 8 3 T_S_fin := ZSnd.loops (zT8_3 129) (by
  rintro args I L R S Q hz ⟨k, n, e, l, rfl, hS, hR, hD, hk, hx0, x2, hl, x0, hQ⟩
  have hk130 : 130 ≤ k := by omega
  have hk134 : k ≤ 134 := by omega
  have hn4 := hx0.1
  refine ⟨[18, 58], fun nM tM lsM stM I1 L1 R1 S1 => match tM with
      | 18 => ∃ (j : Nat), nM = (3, (500 - j), 0) ∧ lsM = [some (zvr (k)), some (zvr (42)), some (zvi (l)), some (zvi (j))] ∧ stM = [] ∧ L1 = L ∧ R1 = R ∧ S1 = S ∧ (j ≤ n) ∧ (I1 k 1 = n) ∧ (∀ q : Nat, q < j → I1 (k + 1) q = e q) ∧ (∀ c j : Nat, ¬ (c = k ∧ j = 1) → ¬ (c = k ∧ j = 2) → ¬ (c = k ∧ j = 3) → ¬ (c = k ∧ j = 4) → ¬ c = k + 1 → ¬ c = k + 3 → I1 c j = I c j)
      | 58 => ∃ (f : Nat), nM = (2, (30 - f), 0) ∧ lsM = [some (zvr (k)), some (zvr (42)), some (zvi (l)), some (zvi (f))] ∧ stM = [] ∧ L1 = L ∧ R1 = R ∧ S1 = S ∧ (f ≤ 26) ∧ (I1 k 1 = n) ∧ (I1 k 2 = 0) ∧ (I1 k 3 = -1) ∧ (I1 k 4 = 0) ∧ (∀ q : Nat, q < n → I1 (k + 1) q = e q) ∧ (∀ q : Nat, q < f → I1 (k + 3) q = -1) ∧ (∀ c j : Nat, ¬ (c = k ∧ j = 1) → ¬ (c = k ∧ j = 2) → ¬ (c = k ∧ j = 3) → ¬ (c = k ∧ j = 4) → ¬ c = k + 1 → ¬ c = k + 3 → I1 c j = I c j)
      | _ => False, rfl, ?_, ⟨?_, ?_, True.intro⟩⟩
  · refine And.intro ⟨(by omega), (zRb rfl)⟩ ?_
    refine And.intro (zN_42 hS) (zrdN (v := 4000) (zV_42 hS) ?_)
    refine And.intro ⟨(by omega), (zRb rfl)⟩ ?_
    refine And.intro (zDX hD 0 rfl) ⟨_, (zWi (by omega)), ?_⟩
    refine ⟨(3, (500 - (0 : Nat)), 0), [some (zvr (k)), some (zvr (42)), some (zvi (l)), some (zvi ((0 : Nat)))], ⟨rfl, rfl, rfl, rfl, rfl⟩, 0, rfl, rfl, rfl, rfl, rfl, rfl, (by omega), (zxe.trans (by omega)), (fun q hq => absurd hq (Nat.not_lt_zero q)), (fun c j h0 h1 h2 h3 h4 h5 => (zxcj h0 rfl))⟩
  · rintro nM lsM stM I1 L1 R1 S1 hz1 ⟨j, rfl, rfl, rfl, rfl, rfl, rfl, hj, h11, hcp, fr⟩
    refine And.intro (zDX hD 0 rfl) (zrd (v := n) h11 ?_)
    refine And.intro ⟨(by omega), (by omega)⟩ ⟨fun h23 => ?_, fun h23 => ?_⟩
    · refine And.intro (zDX hD 0 rfl) ⟨_, (zWi (zRb rfl)), ?_⟩
      refine And.intro (zDX hD 0 rfl) ⟨_, (zWi (zRb rfl)), ?_⟩
      refine And.intro (zDX hD 0 rfl) ⟨_, (zWi (zRb rfl)), ?_⟩
      refine ⟨(2, (30 - (0 : Nat)), 0), zlt6 (by omega), [some (zvr (k)), some (zvr (42)), some (zvi (l)), some (zvi ((0 : Nat)))], ⟨rfl, rfl, rfl, rfl, rfl⟩, 0, rfl, rfl, rfl, rfl, rfl, rfl, (by omega), (zxs (by decide) (zxs (by decide) (zxs (by decide) h11))), (zxs (by decide) (zxs (by decide) zxe)), (Eq.trans (b := ((-1) : Int)) (zxs (by decide) zxe) (by omega)), zxe, (fun q hq => zxu (by omega) (zxu (by omega) (zxu (by omega) (hcp q (by omega))))), (fun q hq => absurd hq (Nat.not_lt_zero q)), (fun c j h0 h1 h2 h3 h4 h5 => (zxcj h3 (zxcj h2 (zxcj h1 ((fr c j h0 h1 h2 h3 h4 h5).trans rfl)))))⟩
    · refine And.intro (zDX hD 0 rfl) (zrdR (v := some (k + 1)) (zDR hD 0 rfl) ?_)
      refine And.intro (zP_42 hS (by omega) (by omega)) (fun v33 e33 r33 => ?_)
      have f33 : v33 = e j := (e33.trans ((fr 42 _ (by omega) (by omega) (by omega) (by omega) (by omega) (by omega) ).trans ((congrArg (I 42) (by omega)).trans (x2 j (by omega)))))
      have f33b : 0 ≤ v33 ∧ v33 ≤ 126 := (by have z9 := hx0.2.2 j; have z8 := x0 j (by omega); omega)
      refine And.intro ⟨(by show 40 ≤ _; omega), (zDP hD 1 rfl rfl (by omega) (by omega)), (by omega), (by omega)⟩ ?_
      refine ⟨(3, (500 - (j + 1)), 0), zlt6 (by omega), [some (zvr (k)), some (zvr (42)), some (zvi (l)), some (zvi ((j + 1)))], ⟨rfl, rfl, rfl, rfl, rfl⟩, (j + 1), rfl, rfl, rfl, rfl, rfl, rfl, (by omega), (zxu (by omega) h11), ?_, (fun c j h0 h1 h2 h3 h4 h5 => (zxu h4 ((fr c j h0 h1 h2 h3 h4 h5).trans rfl)))⟩
      · intro q hq
        by_cases e9 : q = j
        · subst e9
          exact (zxe' (by omega)).trans f33
        · exact zxs (by omega) (hcp q (by omega))
  · rintro nM lsM stM I1 L1 R1 S1 hz1 ⟨f, rfl, rfl, rfl, rfl, rfl, rfl, hf, h11, h12, h13, h14, hcp, hfq, fr⟩
    refine And.intro ⟨(by omega), (zRb rfl)⟩ ⟨fun h61 => ?_, fun h61 => ?_⟩
    · refine And.intro (zDX hD 0 rfl) ⟨_, sn_S_ls0.up (by decide), ?_⟩
      refine ⟨_, n, e, (1, 0, 0, (fun q => I (k + 2) q), (fun _ => -1)), ((-1) : Int), rfl, hS, hR, hD, (by first | exact hk | (clear hQ; grind [xu])), (⟨h11, hx0, hcp⟩), (Or.inl ⟨rfl, ⟨h12, h13, h14⟩, fun q hq => fr (k + 2) q (by omega) (by omega) (by omega) (by omega) (by omega) (by omega) , fun q hq => hfq q (by omega)⟩), rfl, (Or.inl ⟨rfl, Nat.zero_le _, Nat.zero_le _, Nat.zero_le _⟩), (by omega), ?_⟩
      intro I80o p80hR p80bfr
      refine And.intro (zDX hD 0 rfl) (fun v84 e84 r84 => ?_)
      refine hQ _ _ (by clear hQ; grind [xu]) (zEt_fr (show zEt k n e I1 from ⟨h11, hx0, hcp⟩) (fun c j h => p80bfr c j (by omega) (by omega) (by omega) (by omega) (by omega))) p80hR (fun c j h0 h1 h2 h3 h4 h5 h6 => ((p80bfr c j h2 h3 h4 h5 h6).trans ((fr c j h0 h2 h3 h4 h1 h6).trans rfl)))
    · refine And.intro (zDX hD 0 rfl) (zrdR (v := some (k + 3)) (zDR hD 2 rfl) ?_)
      refine And.intro ⟨(by show 40 ≤ _; omega), (zDP hD 3 rfl rfl (by omega) (by omega))⟩ ⟨_, (zWi (zRb rfl)), ?_⟩
      refine ⟨(2, (30 - (f + 1)), 0), zlt6 (by omega), [some (zvr (k)), some (zvr (42)), some (zvi (l)), some (zvi ((f + 1)))], ⟨rfl, rfl, rfl, rfl, rfl⟩, (f + 1), rfl, rfl, rfl, rfl, rfl, rfl, (by omega), (zxu (by omega) h11), (zxu (by omega) h12), (Eq.trans (b := ((-1) : Int)) (zxu (by omega) h13) (by omega)), (zxu (by omega) h14), (fun q hq => zxu (by omega) (hcp q hq)), ?_, (fun c j h0 h1 h2 h3 h4 h5 => (zxu h5 ((fr c j h0 h1 h2 h3 h4 h5).trans rfl)))⟩
      · intro q hq
        by_cases e9 : q = f
        · subst e9
          exact (zxe' (by omega))
        · exact zxs (by omega) (hfq q (by omega)))
