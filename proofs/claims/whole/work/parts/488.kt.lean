/-! kt -/
def T_O_stx : ZT := fun args I L R S Q => ∃ (k : Nat) (a9 : Int) (j : Int) (j_ : Nat) (w : Int) (w_ : Nat) (cc : Nat), args = [zvr k, zvi j, zvi w] ∧ (zSh S) ∧ (zRs R) ∧ (zDy zT2 zF2 k R S) ∧ (I k 0 = a9) ∧ (0 ≤ a9 ∧ a9 ≤ 200) ∧ (j = j_ ∧ j_ < a9) ∧ (w = w_ ∧ w_ < 2) ∧ (I k 10 = cc) ∧ (cc ≤ 4000) ∧ ∀ (I' : ZI), (I' (k + 5) (2 * j_ + w_) = cc) → (∀ c j : Nat, ¬ (c = k + 5 ∧ j = 2 * j_ + w_) → I' c j = I c j) → Q none I' L R S
theorem sn_O_stx : ZSnd 2 2 24 T_O_stx := ZSnd.of (zT2_24 1) (by
  rintro args I L R S Q hz ⟨k, a9, j, j_, w, w_, cc, rfl, hS, hR, hD, ho0, ha9, hj, hw, hcc, hcc2, hQ⟩
  have hk40 := hD.1
  refine And.intro rfl ?_
  refine And.intro (zDX hD 0 rfl) (Exists.intro _ (And.intro (zinl_ok (zT2_14 0)) (And.intro rfl ?_)))
  refine And.intro (by omega) ⟨(fun h1_2 => False.elim (by omega)), fun h1_2 => ?_⟩
  refine And.intro (zDX hD 0 rfl) (zrd (v := a9) ho0 ?_)
  refine And.intro ⟨(by omega), (by omega)⟩ ⟨(fun h9_2 => False.elim (by omega)), fun h9_2 => ?_⟩
  refine And.intro (Or.inr rfl) ?_
  refine And.intro (zRb rfl) (zbf rfl ?_)
  refine And.intro (by omega) ⟨(fun h9 => False.elim (by omega)), fun h9 => ?_⟩
  refine And.intro ⟨(by omega), (zRb rfl)⟩ ⟨(fun h14 => False.elim (by omega)), fun h14 => ?_⟩
  refine And.intro (zDX hD 0 rfl) (zrdR (v := some (k + 5)) (zDR hD 4 rfl) ?_)
  refine And.intro (zDX hD 0 rfl) (zrd (v := cc) hcc ?_)
  refine And.intro ⟨(by show 40 ≤ _; omega), (zDP hD 5 rfl rfl (by omega) (by omega))⟩ ⟨_, (zWi (by omega)), ?_⟩
  refine hQ _ (zxe' (by omega)) (fun c j h0 => zxcj (by omega) rfl))
def T_O_adl : ZT := fun args I L R S Q => ∃ (k : Nat) (a9 : Int) (j : Int) (j_ : Nat) (w : Int) (w_ : Nat) (cc : Nat) (x : Int) (m : Nat), args = [zvr k, zvi j, zvi w, zvi x] ∧ (zSh S) ∧ (zRs R) ∧ (zDy zT2 zF2 k R S) ∧ (I k 0 = a9) ∧ (0 ≤ a9 ∧ a9 ≤ 200) ∧ (j = j_ ∧ j_ < a9) ∧ (w = w_ ∧ w_ < 2) ∧ (I k 10 = cc) ∧ (cc ≤ 3999) ∧ (0 ≤ x ∧ x ≤ 65535) ∧ (I (k + 6) (2 * j_ + w_) = m) ∧ (m ≤ 4000) ∧ ∀ (I' : ZI), (I' k 10 = cc + 1) → (I' (k + 6) (2 * j_ + w_) = m + 1) → (I' (k + 7) cc = x) → (∀ c j : Nat, ¬ (c = k ∧ j = 10) → ¬ (c = k + 6 ∧ j = 2 * j_ + w_) → ¬ (c = k + 7 ∧ j = cc) → I' c j = I c j) → Q none I' L R S
theorem sn_O_adl : ZSnd 2 2 1 T_O_adl := ZSnd.of (zT2_1 1) (by
  rintro args I L R S Q hz ⟨k, a9, j, j_, w, w_, cc, x, m, rfl, hS, hR, hD, ho0, ha9, hj, hw, hcc, hcc2, hx, hm, hm2, hQ⟩
  have hk40 := hD.1
  refine And.intro rfl ?_
  refine And.intro (zDX hD 0 rfl) (Exists.intro _ (And.intro (zinl_ok (zT2_14 0)) (And.intro rfl ?_)))
  refine And.intro (by omega) ⟨(fun h1_2 => False.elim (by omega)), fun h1_2 => ?_⟩
  refine And.intro (zDX hD 0 rfl) (zrd (v := a9) ho0 ?_)
  refine And.intro ⟨(by omega), (by omega)⟩ ⟨(fun h9_2 => False.elim (by omega)), fun h9_2 => ?_⟩
  refine And.intro (Or.inr rfl) ?_
  refine And.intro (zRb rfl) (zbf rfl ?_)
  refine And.intro (by omega) ⟨(fun h9 => False.elim (by omega)), fun h9 => ?_⟩
  refine And.intro ⟨(by omega), (zRb rfl)⟩ ⟨(fun h14 => False.elim (by omega)), fun h14 => ?_⟩
  refine And.intro (zDX hD 0 rfl) (zrd (v := cc) hcc ?_)
  refine And.intro ⟨(by omega), (zRb rfl)⟩ ⟨(fun h24 => False.elim (by omega)), fun h24 => ?_⟩
  refine And.intro (zDX hD 0 rfl) (zrdR (v := some (k + 7)) (zDR hD 6 rfl) ?_)
  refine And.intro (zDX hD 0 rfl) (zrd (v := cc) hcc ?_)
  refine And.intro ⟨(by show 40 ≤ _; omega), (zDP hD 7 rfl rfl (by omega) (by omega)), (by omega), (by omega)⟩ ?_
  refine And.intro (zDX hD 0 rfl) (zrd (v := cc) (zxu (by omega) hcc) ?_)
  refine And.intro (zDX hD 0 rfl) ⟨_, (zWi (by omega)), ?_⟩
  refine And.intro (zDX hD 0 rfl) (zrdR (v := some (k + 6)) (zDR hD 5 rfl) ?_)
  refine And.intro (zDP hD 6 rfl rfl (by omega) (by omega)) (fun v57 e57 r57 => ?_)
  have f57 : v57 = m := (e57.trans (by first | exact (zxcj (by omega) (zxcj (by omega) ((congrArg (I (k + 6)) (by omega)).trans hm))) | (clear hQ; grind [xu])))
  refine And.intro ⟨(by show 40 ≤ _; omega), (zDP hD 6 rfl rfl (by omega) (by omega))⟩ ⟨_, (zWi (by omega)), ?_⟩
  refine hQ _ (Eq.trans (b := ((cc + 1) : Int)) (zxu (by omega) zxe) (by omega)) (by clear hQ; grind [xu]) (by clear hQ; grind [xu]) (fun c j h0 h1 h2 => (zxcj (by omega) (zxcj h0 (zxcj (by omega) rfl)))))
def T_K_txt : ZT := fun args I L R S Q => ∃ (c : Nat → Int) (n : Nat) (p : Nat) (k : Nat) (a9 : Int) (a : Int) (a_ : Nat) (w : Int) (w_ : Nat) (cc : Nat), args = [zvr 61, zvi a, zvi w] ∧ (zSh S) ∧ (zRs R) ∧ (R 61 0 = some 42) ∧ (zRD c n I) ∧ (tOk c n) ∧ (I 61 2 = p) ∧ (p ≤ 5000) ∧ (R 61 7 = some k) ∧ (zDy zT2 zF2 k R S) ∧ (43 ≤ k ∧ k ≤ 52) ∧ (I k 0 = a9) ∧ (0 ≤ a9 ∧ a9 ≤ 200) ∧ (a = a_ ∧ a_ < a9) ∧ (w = w_ ∧ w_ < 2) ∧ (I 61 3 = -1) ∧ (I k 10 = cc) ∧ (cc ≤ p) ∧ (I (k + 6) (2 * a_ + w_) = 0) ∧ ∀ (I' : ZI), (I' 61 3 = tXf c p) → (tXf c p = -1 → I' 61 2 = tXe c p ∧ I' k 10 = cc + tXl c p ∧ I' (k + 5) (2 * a_ + w_) = cc ∧ I' (k + 6) (2 * a_ + w_) = tXl c p ∧ ∀ i, i < tXl c p → I' (k + 7) (cc + i) = tLt c p i) → (∀ c j : Nat, ¬ (c = 61 ∧ j = 2) → ¬ (c = 61 ∧ j = 3) → ¬ (c = k ∧ j = 10) → ¬ (c = k + 5 ∧ j = 2 * a_ + w_) → ¬ (c = k + 6 ∧ j = 2 * a_ + w_) → ¬ (c = k + 7 ∧ cc ≤ j) → I' c j = I c j) → Q none I' L R S
theorem sn_K_txt : ZSnd 3 9 22 T_K_txt := ZSnd.loops (zT9_22 2) (by
  rintro args I L R S Q hz ⟨c, n, p, k, a9, a, a_, w, w_, cc, rfl, hS, hR, htx, hX, hc, hp, hp9, hob, hD, hk, ho0, ha9, ha, hw, hf0, hcc, hcp, hm0, hQ⟩
  obtain ⟨x1, x2⟩ := id hX
  have hn4 := hc.1
  have hk1 := hk.1
  have hk2 := hk.2
  refine ⟨[73], fun nM tM lsM stM I1 L1 R1 S1 => match tM with
      | 73 => ∃ (m : Nat) (q : Nat), nM = ((41 - m), 0, 0) ∧ lsM = [some (zvr (61)), some (zvi (a_)), some (zvi (w_)), some (zvi (m))] ∧ stM = [] ∧ L1 = L ∧ R1 = R ∧ S1 = S ∧ (c p = 34) ∧ (m ≤ 40) ∧ (q = tPo c p m) ∧ (p + 1 + m ≤ q ∧ q ≤ n) ∧ (c q ≠ 34) ∧ (∀ i, i < m → ¬ tXs c p i) ∧ (I1 61 2 = q) ∧ (I1 61 3 = -1) ∧ (I1 k 10 = cc + m) ∧ (I1 (k + 5) (2 * a_ + w_) = cc) ∧ (I1 (k + 6) (2 * a_ + w_) = m) ∧ (∀ i, i < m → I1 (k + 7) (cc + i) = tLt c p i) ∧ (∀ c j : Nat, ¬ (c = 61 ∧ j = 2) → ¬ (c = k ∧ j = 10) → ¬ (c = k + 5 ∧ j = 2 * a_ + w_) → ¬ (c = k + 6 ∧ j = 2 * a_ + w_) → ¬ (c = k + 7 ∧ cc ≤ j) → I1 c j = I c j)
      | _ => False, rfl, ?_, ⟨?_, True.intro⟩⟩
  · refine And.intro (zA_61 hS) ⟨_, sn_K_peek.up (by decide), ?_⟩
    refine ⟨c, n, p, rfl, hS, hR, htx, (by first | exact (zRD_fr hX (fun c j h => rfl)) | (clear hQ; grind [xu])), (by first | exact hc | (clear hQ; grind [xu])), hp, (by omega), ?_⟩
    intro v1o p1hv p1bhv2
    refine And.intro ⟨(by omega), (zRb rfl)⟩ ⟨fun h6 => ?_, fun h6 => ?_⟩
    · refine And.intro (zA_61 hS) (zrd (v := p) hp ?_)
      refine And.intro (zA_61 hS) ⟨_, (zWi (by omega)), ?_⟩
      refine And.intro (zA_61 hS) (zrdR (v := some k) hob ?_)
      refine And.intro (zDX hD 0 rfl) ⟨_, sn_O_stx.up (by decide), ?_⟩
      refine ⟨k, a9, (a : Int), a_, (w : Int), w_, cc, rfl, hS, hR, hD, (zxu (by omega) ho0), (by omega), (by omega), (by omega), (zxu (by omega) hcc), (by omega), ?_⟩
      intro I34o p34hs p34bfr
      refine And.intro ⟨(zRb rfl), (zRb rfl)⟩ (zbf rfl ?_)
      refine And.intro (zA_61 hS) (zrd (v := (-1)) ((p34bfr 61 3 (by omega)).trans hf0) ?_)
      refine And.intro ⟨(zRb rfl), (zRb rfl)⟩ (zbf rfl ?_)
      refine And.intro (zA_61 hS) ⟨_, sn_K_peek.up (by decide), ?_⟩
      refine ⟨c, n, (p + 1), rfl, hS, hR, htx, (by first | exact (zRD_fr hX (fun c j h => ((p34bfr c j (by omega)).trans (zxcj (by omega) rfl)))) | (clear hQ; grind [xu])), (by first | exact hc | (clear hQ; grind [xu])), ((p34bfr 61 2 (by omega)).trans rfl), (by omega), ?_⟩
      intro v54o p54hv p54bhv2
      refine And.intro ⟨(by omega), (zRb rfl)⟩ ⟨fun h59 => ?_, fun h59 => ?_⟩
      · refine ⟨((41 - (0 : Nat)), 0, 0), [some (zvr (61)), some (zvi (a_)), some (zvi (w_)), some (zvi ((0 : Nat)))], ⟨rfl, (congrArg (fun z => some (zvi z)) (by omega)), (congrArg (fun z => some (zvi z)) (by omega)), rfl, rfl⟩, 0, (p + 1), rfl, rfl, rfl, rfl, rfl, rfl, (by omega), (by omega), rfl, (by omega), (by omega), (fun i h => absurd h (Nat.not_lt_zero i)), ((p34bfr 61 2 (by omega)).trans rfl), (Eq.trans (b := ((-1) : Int)) ((p34bfr 61 3 (by omega)).trans hf0) (by omega)), (Eq.trans (b := (cc : Int)) ((p34bfr k 10 (by omega)).trans (zxu (by omega) hcc)) (by omega)), p34hs, (((p34bfr (k + 6) _ (by omega)).trans (zxcj (by omega) rfl)).trans hm0), (fun i h => absurd h (Nat.not_lt_zero i)), (fun c j h0 h1 h2 h3 h4 => ((p34bfr c j (by omega)).trans (zxcj h0 rfl)))⟩
      · refine And.intro (zA_61 hS) (zrd (v := (p + 1)) ((p34bfr 61 2 (by omega)).trans rfl) ?_)
        refine And.intro (zA_61 hS) ⟨_, (zWi (by omega)), ?_⟩
        refine hQ _ ?_ ?_ (fun c j h0 h1 h2 h3 h4 h5 => (zxcj h0 ((p34bfr c j (by omega)).trans (zxcj h0 rfl))))
        · first
          | exact zxe.trans (tXf_n (by omega)).symm
          | exact zxe.trans (tXf_a h0 hq (by omega) hn (by omega) (by omega)).symm
          | exact zxe.trans ((by omega : _ = ((q : Nat) : Int) + 1).trans (tXf_b h0 hq (by omega) hn (by omega) (by omega) (by omega) (by omega)).symm)
          | exact (zxcj (by omega) ((p34bfr 61 _ (by omega)).trans (zxcj (by omega) rfl))).trans (hf0.trans (tXf_q (c := c) (p := p) (m := 0) (q := p + 1) (by omega) rfl (by omega) (fun i h => absurd h (Nat.not_lt_zero i)) (by omega)).1.symm)
          | exact (zxcj (by omega) ((p34bfr 61 _ (by omega)).trans (zxcj (by omega) rfl))).trans (hf1.trans (tXf_q h0 (m := m + 1) rfl (by omega) (tXs_up hn g134) (by omega)).1.symm)
        · intro h9
          first
          | (exfalso; rw [tXf_n (by omega)] at h9; omega)
          | (exfalso; rw [tXf_a h0 hq (by omega) hn (by omega) (by omega)] at h9; omega)
          | (exfalso; rw [tXf_b h0 hq (by omega) hn (by omega) (by omega) (by omega) (by omega)] at h9; omega)
          | (have e := tXf_q (c := c) (p := p) (m := 0) (q := p + 1) (by omega) rfl (by omega) (fun i h => absurd h (Nat.not_lt_zero i)) (by omega)
             rw [e.2.1, e.2.2]
             exact ⟨zxe.trans (by omega), ((zxcj (by omega) ((p34bfr k _ (by omega)).trans (zxcj (by omega) rfl))).trans hcc).trans (by omega), zxu (by omega) p34hs, ((zxcj (by omega) ((p34bfr (k + 6) _ (by omega)).trans (zxcj (by omega) rfl))).trans hm0).trans (by omega), (fun i h => absurd h (Nat.not_lt_zero i))⟩)
          | (have e := tXf_q h0 (m := m + 1) rfl (by omega) (tXs_up hn g134) (by omega)
             rw [e.2.1, e.2.2]
             refine ⟨zxe.trans (by omega), (zxu (by omega) (zxu (by omega) p134hc1)).trans (by omega), (zxu (by omega) ((p34bfr (k + 5) _ (by omega)).trans (zxu (by omega) rfl))).trans hs5, (zxu (by omega) (zxu (by omega) p134bhm1)).trans (by omega), fun i hi => ?_⟩
             by_cases e : i = m
             · subst e
               exact (zxu (by omega) (zxu (by omega) p134bbhl1)).trans f133
             · exact (zxu (by omega) ((p34bfr (k + 7) _ (by omega)).trans (zxu (by omega) rfl))).trans (hl i (by omega)))
    · refine And.intro (zA_61 hS) (zrd (v := p) hp ?_)
      refine And.intro (zA_61 hS) (Exists.intro _ (And.intro (zinl_ok (zT9_2 1)) (And.intro rfl ?_)))
      refine And.intro (zA_61 hS) (zrd (v := (-1)) hf0 ?_)
      refine And.intro ⟨(zRb rfl), (zRb rfl)⟩ (zbf rfl ?_)
      refine And.intro (zA_61 hS) ⟨_, (zWi (by omega)), ?_⟩
      refine hQ _ ?_ ?_ (fun c j h0 h1 h2 h3 h4 h5 => (zxcj h1 rfl))
      · first
        | exact zxe.trans (tXf_n (by omega)).symm
        | exact zxe.trans (tXf_a h0 hq (by omega) hn (by omega) (by omega)).symm
        | exact zxe.trans ((by omega : _ = ((q : Nat) : Int) + 1).trans (tXf_b h0 hq (by omega) hn (by omega) (by omega) (by omega) (by omega)).symm)
        | exact (zxcj (by omega) rfl).trans (hf0.trans (tXf_q (c := c) (p := p) (m := 0) (q := p + 1) (by omega) rfl (by omega) (fun i h => absurd h (Nat.not_lt_zero i)) (by omega)).1.symm)
        | exact (zxcj (by omega) rfl).trans (hf1.trans (tXf_q h0 (m := m + 1) rfl (by omega) (tXs_up hn g134) (by omega)).1.symm)
      · intro h9
        first
        | (exfalso; rw [tXf_n (by omega)] at h9; omega)
        | (exfalso; rw [tXf_a h0 hq (by omega) hn (by omega) (by omega)] at h9; omega)
        | (exfalso; rw [tXf_b h0 hq (by omega) hn (by omega) (by omega) (by omega) (by omega)] at h9; omega)
        | (have e := tXf_q (c := c) (p := p) (m := 0) (q := p + 1) (by omega) rfl (by omega) (fun i h => absurd h (Nat.not_lt_zero i)) (by omega)
           rw [e.2.1, e.2.2]
           exact ⟨zxe.trans (by omega), ((zxcj (by omega) rfl).trans hcc).trans (by omega), zxu (by omega) p34hs, ((zxcj (by omega) rfl).trans hm0).trans (by omega), (fun i h => absurd h (Nat.not_lt_zero i))⟩)
        | (have e := tXf_q h0 (m := m + 1) rfl (by omega) (tXs_up hn g134) (by omega)
           rw [e.2.1, e.2.2]
           refine ⟨zxe.trans (by omega), (zxu (by omega) (zxu (by omega) p134hc1)).trans (by omega), (zxu (by omega) rfl).trans hs5, (zxu (by omega) (zxu (by omega) p134bhm1)).trans (by omega), fun i hi => ?_⟩
           by_cases e : i = m
           · subst e
             exact (zxu (by omega) (zxu (by omega) p134bbhl1)).trans f133
           · exact (zxu (by omega) rfl).trans (hl i (by omega)))
  · rintro nM lsM stM I1 L1 R1 S1 hz1 ⟨m, q, rfl, rfl, rfl, rfl, rfl, rfl, h0, hm, hq, hqb, hne, hn, hpl, hf1, hc1, hs5, hm1, hl, fr⟩
    have pos := tPo_s hq
    have let_ := tLt_s hq
    have cq := hc.2.1 q
    have cq1 := hc.2.1 (q + 1)
    have cq2 := hc.2.2 q
    have cq3 := hc.2.2 (q + 1)
    refine And.intro ⟨(by omega), (zRb rfl)⟩ ⟨fun h76 => ?_, fun h76 => ?_⟩
    · refine And.intro (zA_61 hS) (zrd (v := q) hpl ?_)
      refine And.intro (zA_61 hS) (Exists.intro _ (And.intro (zinl_ok (zT9_2 1)) (And.intro rfl ?_)))
      refine And.intro (zA_61 hS) (zrd (v := (-1)) hf1 ?_)
      refine And.intro ⟨(zRb rfl), (zRb rfl)⟩ (zbf rfl ?_)
      refine And.intro (zA_61 hS) ⟨_, (zWi (by omega)), ?_⟩
      refine And.intro (zA_61 hS) (Exists.intro _ (And.intro (zinl_ok (zT9_26 1)) (And.intro rfl ?_)))
      refine And.intro (zA_61 hS) (zrd (v := q) rfl ?_)
      refine And.intro ⟨(by omega), (zRb rfl)⟩ ⟨fun h5_97 => ?_, (fun h5_97 => False.elim (by omega))⟩
      refine And.intro (zA_61 hS) (zrd (v := q) rfl ?_)
      refine And.intro ⟨(by omega), (zRb rfl)⟩ ⟨fun h105 => ?_, (fun h105 => False.elim (by omega))⟩
      refine And.intro (zA_61 hS) (zrd (v := q) hpl ?_)
      refine And.intro (zA_61 hS) (Exists.intro _ (And.intro (zinl_ok (zT9_2 1)) (And.intro rfl ?_)))
      refine And.intro (zA_61 hS) (zrd (v := q) rfl ?_)
      refine And.intro ⟨(by omega), (zRb rfl)⟩ ⟨fun h5_155 => ?_, (fun h5_155 => False.elim (by omega))⟩
      refine And.intro ⟨(by omega), (zRb rfl)⟩ ⟨fun h42 => ?_, (fun h42 => False.elim (by omega))⟩
      refine hQ _ ?_ ?_ (fun c j h0 h1 h2 h3 h4 h5 => (zxcj h1 ((fr c j (by omega) (by omega) (by omega) (by omega) (by omega)).trans rfl)))
      · first
        | exact zxe.trans (tXf_n (by omega)).symm
        | exact zxe.trans (tXf_a h0 hq (by omega) hn (by omega) (by omega)).symm
        | exact zxe.trans ((by omega : _ = ((q : Nat) : Int) + 1).trans (tXf_b h0 hq (by omega) hn (by omega) (by omega) (by omega) (by omega)).symm)
        | exact (zxcj (by omega) ((fr 61 _ (by omega) (by omega) (by omega) (by omega) (by omega)).trans rfl)).trans (hf0.trans (tXf_q (c := c) (p := p) (m := 0) (q := p + 1) (by omega) rfl (by omega) (fun i h => absurd h (Nat.not_lt_zero i)) (by omega)).1.symm)
        | exact (zxcj (by omega) rfl).trans (hf1.trans (tXf_q h0 (m := m + 1) rfl (by omega) (tXs_up hn g134) (by omega)).1.symm)
      · intro h9
        first
        | (exfalso; rw [tXf_n (by omega)] at h9; omega)
        | (exfalso; rw [tXf_a h0 hq (by omega) hn (by omega) (by omega)] at h9; omega)
        | (exfalso; rw [tXf_b h0 hq (by omega) hn (by omega) (by omega) (by omega) (by omega)] at h9; omega)
        | (have e := tXf_q (c := c) (p := p) (m := 0) (q := p + 1) (by omega) rfl (by omega) (fun i h => absurd h (Nat.not_lt_zero i)) (by omega)
           rw [e.2.1, e.2.2]
           exact ⟨zxe.trans (by omega), ((zxcj (by omega) ((fr k _ (by omega) (by omega) (by omega) (by omega) (by omega)).trans rfl)).trans hcc).trans (by omega), zxu (by omega) p34hs, ((zxcj (by omega) ((fr (k + 6) _ (by omega) (by omega) (by omega) (by omega) (by omega)).trans rfl)).trans hm0).trans (by omega), (fun i h => absurd h (Nat.not_lt_zero i))⟩)
        | (have e := tXf_q h0 (m := m + 1) rfl (by omega) (tXs_up hn g134) (by omega)
           rw [e.2.1, e.2.2]
           refine ⟨zxe.trans (by omega), (zxu (by omega) (zxu (by omega) p134hc1)).trans (by omega), (zxu (by omega) rfl).trans hs5, (zxu (by omega) (zxu (by omega) p134bhm1)).trans (by omega), fun i hi => ?_⟩
           by_cases e : i = m
           · subst e
             exact (zxu (by omega) (zxu (by omega) p134bbhl1)).trans f133
           · exact (zxu (by omega) rfl).trans (hl i (by omega)))
    · refine And.intro (zA_61 hS) ⟨_, sn_K_peek.up (by decide), ?_⟩
      refine ⟨c, n, q, rfl, hS, hR, htx, (by first | exact (zRD_fr hX (fun c j h => ((fr c j (by omega) (by omega) (by omega) (by omega) (by omega)).trans rfl))) | (clear hQ; grind [xu])), (by first | exact hc | (clear hQ; grind [xu])), hpl, (by omega), ?_⟩
      intro v80o p80hv p80bhv2
      refine And.intro ⟨(by omega), (zRb rfl)⟩ ⟨fun h85 => ?_, fun h85 => ?_⟩
      · refine And.intro (zA_61 hS) (Exists.intro _ (And.intro (zinl_ok (zT9_26 1)) (And.intro rfl ?_)))
        refine And.intro (zA_61 hS) (zrd (v := (-1)) hf1 ?_)
        refine And.intro ⟨(zRb rfl), (zRb rfl)⟩ (zbf rfl ?_)
        refine And.intro (zA_61 hS) ⟨_, sn_K_peek.up (by decide), ?_⟩
        refine ⟨c, n, q, rfl, hS, hR, htx, (by first | exact (zRD_fr hX (fun c j h => ((fr c j (by omega) (by omega) (by omega) (by omega) (by omega)).trans rfl))) | (clear hQ; grind [xu])), (by first | exact hc | (clear hQ; grind [xu])), hpl, (by omega), ?_⟩
        intro v9_97o p9_97hv p9_97bhv2
        refine And.intro ⟨(by omega), (zRb rfl)⟩ ⟨fun h14_97 => ?_, fun h14_97 => ?_⟩
        · refine And.intro (zA_61 hS) (zrd (v := (-1)) hf1 ?_)
          refine And.intro ⟨(zRb rfl), (zRb rfl)⟩ (zbf rfl ?_)
          refine And.intro (zA_61 hS) (zrd (v := q) hpl ?_)
          refine And.intro (zA_61 hS) (zrd (v := n) ((fr 61 1 (by omega) (by omega) (by omega) (by omega) (by omega)).trans x1) ?_)
          refine And.intro ⟨(by omega), (by omega)⟩ ⟨fun h116 => ?_, fun h116 => ?_⟩
          · refine And.intro (zA_61 hS) (zrd (v := q) hpl ?_)
            refine And.intro (zA_61 hS) (Exists.intro _ (And.intro (zinl_ok (zT9_2 1)) (And.intro rfl ?_)))
            refine And.intro (zA_61 hS) (zrd (v := (-1)) hf1 ?_)
            refine And.intro ⟨(zRb rfl), (zRb rfl)⟩ (zbf rfl ?_)
            refine And.intro (zA_61 hS) ⟨_, (zWi (by omega)), ?_⟩
            refine And.intro ⟨(by omega), (zRb rfl)⟩ ⟨(fun h42 => False.elim (by omega)), fun h42 => ?_⟩
            refine And.intro (zA_61 hS) (zrd (v := q) rfl ?_)
            refine And.intro ⟨(by omega), (zRb rfl)⟩ ⟨fun h50 => ?_, (fun h50 => False.elim (by omega))⟩
            refine hQ _ ?_ ?_ (fun c j h0 h1 h2 h3 h4 h5 => (zxcj h1 ((fr c j (by omega) (by omega) (by omega) (by omega) (by omega)).trans rfl)))
            · first
              | exact zxe.trans (tXf_n (by omega)).symm
              | exact zxe.trans (tXf_a h0 hq (by omega) hn (by omega) (by omega)).symm
              | exact zxe.trans ((by omega : _ = ((q : Nat) : Int) + 1).trans (tXf_b h0 hq (by omega) hn (by omega) (by omega) (by omega) (by omega)).symm)
              | exact (zxcj (by omega) ((fr 61 _ (by omega) (by omega) (by omega) (by omega) (by omega)).trans rfl)).trans (hf0.trans (tXf_q (c := c) (p := p) (m := 0) (q := p + 1) (by omega) rfl (by omega) (fun i h => absurd h (Nat.not_lt_zero i)) (by omega)).1.symm)
              | exact (zxcj (by omega) rfl).trans (hf1.trans (tXf_q h0 (m := m + 1) rfl (by omega) (tXs_up hn g134) (by omega)).1.symm)
            · intro h9
              first
              | (exfalso; rw [tXf_n (by omega)] at h9; omega)
              | (exfalso; rw [tXf_a h0 hq (by omega) hn (by omega) (by omega)] at h9; omega)
              | (exfalso; rw [tXf_b h0 hq (by omega) hn (by omega) (by omega) (by omega) (by omega)] at h9; omega)
              | (have e := tXf_q (c := c) (p := p) (m := 0) (q := p + 1) (by omega) rfl (by omega) (fun i h => absurd h (Nat.not_lt_zero i)) (by omega)
                 rw [e.2.1, e.2.2]
                 exact ⟨zxe.trans (by omega), ((zxcj (by omega) ((fr k _ (by omega) (by omega) (by omega) (by omega) (by omega)).trans rfl)).trans hcc).trans (by omega), zxu (by omega) p34hs, ((zxcj (by omega) ((fr (k + 6) _ (by omega) (by omega) (by omega) (by omega) (by omega)).trans rfl)).trans hm0).trans (by omega), (fun i h => absurd h (Nat.not_lt_zero i))⟩)
              | (have e := tXf_q h0 (m := m + 1) rfl (by omega) (tXs_up hn g134) (by omega)
                 rw [e.2.1, e.2.2]
                 refine ⟨zxe.trans (by omega), (zxu (by omega) (zxu (by omega) p134hc1)).trans (by omega), (zxu (by omega) rfl).trans hs5, (zxu (by omega) (zxu (by omega) p134bhm1)).trans (by omega), fun i hi => ?_⟩
                 by_cases e : i = m
                 · subst e
                   exact (zxu (by omega) (zxu (by omega) p134bbhl1)).trans f133
                 · exact (zxu (by omega) rfl).trans (hl i (by omega)))
          · refine And.intro (zA_61 hS) (zrdR (v := some k) hob ?_)
            refine And.intro (zA_61 hS) (zrdR (v := some 42) htx ?_)
            refine And.intro (zA_61 hS) (zrd (v := q) hpl ?_)
            refine And.intro (zP_42 hS (by omega) (by omega)) (fun v133 e133 r133 => ?_)
            have f133 : v133 = tLt c p m := (by first | exact (e133.trans (((fr 42 _ (by omega) (by omega) (by omega) (by omega) (by omega)).trans rfl).trans ((congrArg (I 42) (by omega)).trans (x2 q (by omega))))).trans (let_.2 (by omega)).symm | exact (e133.trans (((fr 42 _ (by omega) (by omega) (by omega) (by omega) (by omega)).trans rfl).trans ((congrArg (I 42) (by omega)).trans (x2 (q + 1) (by omega))))).trans (let_.1 (by omega)).symm)
            have f133b : 10 ≤ tLt c p m ∧ tLt c p m ≤ 126 := (by have e := let_; omega)
            refine And.intro (zDX hD 0 rfl) ⟨_, sn_O_adl.up (by decide), ?_⟩
            refine ⟨k, a9, (a_ : Int), a_, (w_ : Int), w_, (cc + m), (v133 : Int), m, rfl, hS, hR, hD, ((fr k 0 (by omega) (by omega) (by omega) (by omega) (by omega)).trans ho0), (by omega), (by omega), (by omega), hc1, (by omega), (by omega), (by clear hQ; grind [xu]), (by omega), ?_⟩
            intro I134o p134hc1 p134bhm1 p134bbhl1 p134bbbfr
            have g134 : ¬ tXs c p m := (tXs_n hq (by omega) (by omega) (by omega) (by omega))
            have g134b : tPo c p (m + 1) ≤ n ∧ p + 2 + m ≤ tPo c p (m + 1) := (by by_cases e : c q = 92; (rw [pos.1 e]; omega); (rw [pos.2 e]; omega))
            refine And.intro (zA_61 hS) (zrd (v := q) ((p134bbbfr 61 2 (by omega) (by omega) (by omega)).trans hpl) ?_)
            refine And.intro (zA_61 hS) ⟨_, (zWi (by omega)), ?_⟩
            refine And.intro ⟨(by omega), (zRb rfl)⟩ ⟨(fun h42 => False.elim (by omega)), fun h42 => ?_⟩
            refine And.intro (zA_61 hS) (zrd (v := (-1)) ((p134bbbfr 61 3 (by omega) (by omega) (by omega)).trans hf1) ?_)
            refine And.intro ⟨(zRb rfl), (zRb rfl)⟩ (zbf rfl ?_)
            refine And.intro (zA_61 hS) ⟨_, sn_K_peek.up (by decide), ?_⟩
            refine ⟨c, n, (tPo c p (m + 1)), rfl, hS, hR, htx, (by first | exact (zRD_fr hX (fun c j h => (zxcj (by omega) ((p134bbbfr c j (by omega) (by omega) (by omega)).trans ((fr c j (by omega) (by omega) (by omega) (by omega) (by omega)).trans rfl))))) | (clear hQ; grind [xu])), (by first | exact hc | (clear hQ; grind [xu])), (Eq.trans (b := ((q + 1) : Int)) rfl (by omega)), (by omega), ?_⟩
            intro v54o p54hv p54bhv2
            refine And.intro ⟨(by omega), (zRb rfl)⟩ ⟨fun h59 => ?_, fun h59 => ?_⟩
            · refine ⟨((41 - (m + 1)), 0, 0), zlt6 (by omega), [some (zvr (61)), some (zvi (a_)), some (zvi (w_)), some (zvi ((m + 1)))], ⟨rfl, rfl, rfl, rfl, rfl⟩, (m + 1), (tPo c p (m + 1)), rfl, rfl, rfl, rfl, rfl, rfl, h0, (by omega), rfl, (by omega), (by omega), (tXs_up hn g134), (zxe.trans (by omega)), (Eq.trans (b := ((-1) : Int)) ((p134bbbfr 61 3 (by omega) (by omega) (by omega)).trans hf1) (by omega)), (Eq.trans (b := (((cc + m) + 1) : Int)) (zxu (by omega) p134hc1) (by omega)), ((zxu (by omega) ((p134bbbfr (k + 5) _ (by omega) (by omega) (by omega)).trans rfl)).trans hs5), (by first | exact hm1 | (clear hQ; grind [xu])), ?_, (fun c j h0 h1 h2 h3 h4 => (zxcj h0 ((p134bbbfr c j (by omega) (by omega) (by omega)).trans ((fr c j (by omega) (by omega) (by omega) (by omega) (by omega)).trans rfl))))⟩
              · intro i hi
                by_cases e : i = m
                · subst e
                  exact (zxu (by omega) p134bbhl1).trans f133
                · exact (zxu (by omega) ((p134bbbfr (k + 7) _ (by omega) (by omega) (by omega)).trans rfl)).trans (hl i (by omega))
            · refine And.intro (zA_61 hS) (zrd (v := (q + 1)) rfl ?_)
              refine And.intro (zA_61 hS) ⟨_, (zWi (by omega)), ?_⟩
              refine hQ _ ?_ ?_ (fun c j h0 h1 h2 h3 h4 h5 => (zxcj h0 (zxcj h0 ((p134bbbfr c j (by omega) (by omega) (by omega)).trans ((fr c j (by omega) (by omega) (by omega) (by omega) (by omega)).trans rfl)))))
              · first
                | exact zxe.trans (tXf_n (by omega)).symm
                | exact zxe.trans (tXf_a h0 hq (by omega) hn (by omega) (by omega)).symm
                | exact zxe.trans ((by omega : _ = ((q : Nat) : Int) + 1).trans (tXf_b h0 hq (by omega) hn (by omega) (by omega) (by omega) (by omega)).symm)
                | exact (zxcj (by omega) (zxcj (by omega) ((p134bbbfr 61 _ (by omega) (by omega) (by omega)).trans ((fr 61 _ (by omega) (by omega) (by omega) (by omega) (by omega)).trans rfl)))).trans (hf0.trans (tXf_q (c := c) (p := p) (m := 0) (q := p + 1) (by omega) rfl (by omega) (fun i h => absurd h (Nat.not_lt_zero i)) (by omega)).1.symm)
                | exact (zxcj (by omega) (zxcj (by omega) ((p134bbbfr 61 _ (by omega) (by omega) (by omega)).trans rfl))).trans (hf1.trans (tXf_q h0 (m := m + 1) rfl (by omega) (tXs_up hn g134) (by omega)).1.symm)
              · intro h9
                first
                | (exfalso; rw [tXf_n (by omega)] at h9; omega)
                | (exfalso; rw [tXf_a h0 hq (by omega) hn (by omega) (by omega)] at h9; omega)
                | (exfalso; rw [tXf_b h0 hq (by omega) hn (by omega) (by omega) (by omega) (by omega)] at h9; omega)
                | (have e := tXf_q (c := c) (p := p) (m := 0) (q := p + 1) (by omega) rfl (by omega) (fun i h => absurd h (Nat.not_lt_zero i)) (by omega)
                   rw [e.2.1, e.2.2]
                   exact ⟨zxe.trans (by omega), ((zxcj (by omega) (zxcj (by omega) ((p134bbbfr k _ (by omega) (by omega) (by omega)).trans ((fr k _ (by omega) (by omega) (by omega) (by omega) (by omega)).trans rfl)))).trans hcc).trans (by omega), zxu (by omega) p34hs, ((zxcj (by omega) (zxcj (by omega) ((p134bbbfr (k + 6) _ (by omega) (by omega) (by omega)).trans ((fr (k + 6) _ (by omega) (by omega) (by omega) (by omega) (by omega)).trans rfl)))).trans hm0).trans (by omega), (fun i h => absurd h (Nat.not_lt_zero i))⟩)
                | (have e := tXf_q h0 (m := m + 1) rfl (by omega) (tXs_up hn g134) (by omega)
                   rw [e.2.1, e.2.2]
                   refine ⟨zxe.trans (by omega), (zxu (by omega) (zxu (by omega) p134hc1)).trans (by omega), (zxu (by omega) (zxu (by omega) ((p134bbbfr (k + 5) _ (by omega) (by omega) (by omega)).trans rfl))).trans hs5, (zxu (by omega) (zxu (by omega) p134bhm1)).trans (by omega), fun i hi => ?_⟩
                   by_cases e : i = m
                   · subst e
                     exact (zxu (by omega) (zxu (by omega) p134bbhl1)).trans f133
                   · exact (zxu (by omega) (zxu (by omega) ((p134bbbfr (k + 7) _ (by omega) (by omega) (by omega)).trans rfl))).trans (hl i (by omega)))
        · refine And.intro (zA_61 hS) (zrd (v := q) hpl ?_)
          refine And.intro (zA_61 hS) ⟨_, (zWi (by omega)), ?_⟩
          refine And.intro (zA_61 hS) ⟨_, sn_K_peek.up (by decide), ?_⟩
          refine ⟨c, n, (q + 1), rfl, hS, hR, htx, (by first | exact (zRD_fr hX (fun c j h => (zxcj (by omega) ((fr c j (by omega) (by omega) (by omega) (by omega) (by omega)).trans rfl)))) | (clear hQ; grind [xu])), (by first | exact hc | (clear hQ; grind [xu])), rfl, (by omega), ?_⟩
          intro v28_97o p28_97hv p28_97bhv2
          refine And.intro ⟨(by omega), (zRb rfl)⟩ ⟨fun h33_97 => ?_, fun h33_97 => ?_⟩
          · refine And.intro (zA_61 hS) (zrd (v := (-1)) hf1 ?_)
            refine And.intro ⟨(zRb rfl), (zRb rfl)⟩ (zbf rfl ?_)
            refine And.intro (zA_61 hS) (zrd (v := (q + 1)) rfl ?_)
            refine And.intro (zA_61 hS) (zrd (v := n) ((fr 61 1 (by omega) (by omega) (by omega) (by omega) (by omega)).trans x1) ?_)
            refine And.intro ⟨(by omega), (by omega)⟩ ⟨fun h116 => ?_, fun h116 => ?_⟩
            · refine And.intro (zA_61 hS) (zrd (v := (q + 1)) rfl ?_)
              refine And.intro (zA_61 hS) (Exists.intro _ (And.intro (zinl_ok (zT9_2 1)) (And.intro rfl ?_)))
              refine And.intro (zA_61 hS) (zrd (v := (-1)) hf1 ?_)
              refine And.intro ⟨(zRb rfl), (zRb rfl)⟩ (zbf rfl ?_)
              refine And.intro (zA_61 hS) ⟨_, (zWi (by omega)), ?_⟩
              refine And.intro ⟨(by omega), (zRb rfl)⟩ ⟨(fun h42 => False.elim (by omega)), fun h42 => ?_⟩
              refine And.intro (zA_61 hS) (zrd (v := (q + 1)) rfl ?_)
              refine And.intro ⟨(by omega), (zRb rfl)⟩ ⟨fun h50 => ?_, (fun h50 => False.elim (by omega))⟩
              refine hQ _ ?_ ?_ (fun c j h0 h1 h2 h3 h4 h5 => (zxcj h1 (zxcj h0 ((fr c j (by omega) (by omega) (by omega) (by omega) (by omega)).trans rfl))))
              · first
                | exact zxe.trans (tXf_n (by omega)).symm
                | exact zxe.trans (tXf_a h0 hq (by omega) hn (by omega) (by omega)).symm
                | exact zxe.trans ((by omega : _ = ((q : Nat) : Int) + 1).trans (tXf_b h0 hq (by omega) hn (by omega) (by omega) (by omega) (by omega)).symm)
                | exact (zxcj (by omega) (zxcj (by omega) ((fr 61 _ (by omega) (by omega) (by omega) (by omega) (by omega)).trans rfl))).trans (hf0.trans (tXf_q (c := c) (p := p) (m := 0) (q := p + 1) (by omega) rfl (by omega) (fun i h => absurd h (Nat.not_lt_zero i)) (by omega)).1.symm)
                | exact (zxcj (by omega) (zxcj (by omega) rfl)).trans (hf1.trans (tXf_q h0 (m := m + 1) rfl (by omega) (tXs_up hn g134) (by omega)).1.symm)
              · intro h9
                first
                | (exfalso; rw [tXf_n (by omega)] at h9; omega)
                | (exfalso; rw [tXf_a h0 hq (by omega) hn (by omega) (by omega)] at h9; omega)
                | (exfalso; rw [tXf_b h0 hq (by omega) hn (by omega) (by omega) (by omega) (by omega)] at h9; omega)
                | (have e := tXf_q (c := c) (p := p) (m := 0) (q := p + 1) (by omega) rfl (by omega) (fun i h => absurd h (Nat.not_lt_zero i)) (by omega)
                   rw [e.2.1, e.2.2]
                   exact ⟨zxe.trans (by omega), ((zxcj (by omega) (zxcj (by omega) ((fr k _ (by omega) (by omega) (by omega) (by omega) (by omega)).trans rfl))).trans hcc).trans (by omega), zxu (by omega) p34hs, ((zxcj (by omega) (zxcj (by omega) ((fr (k + 6) _ (by omega) (by omega) (by omega) (by omega) (by omega)).trans rfl))).trans hm0).trans (by omega), (fun i h => absurd h (Nat.not_lt_zero i))⟩)
                | (have e := tXf_q h0 (m := m + 1) rfl (by omega) (tXs_up hn g134) (by omega)
                   rw [e.2.1, e.2.2]
                   refine ⟨zxe.trans (by omega), (zxu (by omega) (zxu (by omega) p134hc1)).trans (by omega), (zxu (by omega) (zxu (by omega) rfl)).trans hs5, (zxu (by omega) (zxu (by omega) p134bhm1)).trans (by omega), fun i hi => ?_⟩
                   by_cases e : i = m
                   · subst e
                     exact (zxu (by omega) (zxu (by omega) p134bbhl1)).trans f133
                   · exact (zxu (by omega) (zxu (by omega) rfl)).trans (hl i (by omega)))
            · refine And.intro (zA_61 hS) (zrdR (v := some k) hob ?_)
              refine And.intro (zA_61 hS) (zrdR (v := some 42) htx ?_)
              refine And.intro (zA_61 hS) (zrd (v := (q + 1)) rfl ?_)
              refine And.intro (zP_42 hS (by omega) (by omega)) (fun v133 e133 r133 => ?_)
              have f133 : v133 = tLt c p m := (by first | exact (e133.trans ((zxcj (by omega) ((fr 42 _ (by omega) (by omega) (by omega) (by omega) (by omega)).trans rfl)).trans ((congrArg (I 42) (by omega)).trans (x2 q (by omega))))).trans (let_.2 (by omega)).symm | exact (e133.trans ((zxcj (by omega) ((fr 42 _ (by omega) (by omega) (by omega) (by omega) (by omega)).trans rfl)).trans ((congrArg (I 42) (by omega)).trans (x2 (q + 1) (by omega))))).trans (let_.1 (by omega)).symm)
              have f133b : 10 ≤ tLt c p m ∧ tLt c p m ≤ 126 := (by have e := let_; omega)
              refine And.intro (zDX hD 0 rfl) ⟨_, sn_O_adl.up (by decide), ?_⟩
              refine ⟨k, a9, (a_ : Int), a_, (w_ : Int), w_, (cc + m), (v133 : Int), m, rfl, hS, hR, hD, (zxu (by omega) ((fr k 0 (by omega) (by omega) (by omega) (by omega) (by omega)).trans ho0)), (by omega), (by omega), (by omega), (zxu (by omega) hc1), (by omega), (by omega), (by clear hQ; grind [xu]), (by omega), ?_⟩
              intro I134o p134hc1 p134bhm1 p134bbhl1 p134bbbfr
              have g134 : ¬ tXs c p m := (tXs_n hq (by omega) (by omega) (by omega) (by omega))
              have g134b : tPo c p (m + 1) ≤ n ∧ p + 2 + m ≤ tPo c p (m + 1) := (by by_cases e : c q = 92; (rw [pos.1 e]; omega); (rw [pos.2 e]; omega))
              refine And.intro (zA_61 hS) (zrd (v := (q + 1)) ((p134bbbfr 61 2 (by omega) (by omega) (by omega)).trans rfl) ?_)
              refine And.intro (zA_61 hS) ⟨_, (zWi (by omega)), ?_⟩
              refine And.intro ⟨(by omega), (zRb rfl)⟩ ⟨(fun h42 => False.elim (by omega)), fun h42 => ?_⟩
              refine And.intro (zA_61 hS) (zrd (v := (-1)) ((p134bbbfr 61 3 (by omega) (by omega) (by omega)).trans hf1) ?_)
              refine And.intro ⟨(zRb rfl), (zRb rfl)⟩ (zbf rfl ?_)
              refine And.intro (zA_61 hS) ⟨_, sn_K_peek.up (by decide), ?_⟩
              refine ⟨c, n, (tPo c p (m + 1)), rfl, hS, hR, htx, (by first | exact (zRD_fr hX (fun c j h => (zxcj (by omega) ((p134bbbfr c j (by omega) (by omega) (by omega)).trans (zxcj (by omega) ((fr c j (by omega) (by omega) (by omega) (by omega) (by omega)).trans rfl)))))) | (clear hQ; grind [xu])), (by first | exact hc | (clear hQ; grind [xu])), (Eq.trans (b := (((q + 1) + 1) : Int)) rfl (by omega)), (by omega), ?_⟩
              intro v54o p54hv p54bhv2
              refine And.intro ⟨(by omega), (zRb rfl)⟩ ⟨fun h59 => ?_, fun h59 => ?_⟩
              · refine ⟨((41 - (m + 1)), 0, 0), zlt6 (by omega), [some (zvr (61)), some (zvi (a_)), some (zvi (w_)), some (zvi ((m + 1)))], ⟨rfl, rfl, rfl, rfl, rfl⟩, (m + 1), (tPo c p (m + 1)), rfl, rfl, rfl, rfl, rfl, rfl, h0, (by omega), rfl, (by omega), (by omega), (tXs_up hn g134), (zxe.trans (by omega)), (Eq.trans (b := ((-1) : Int)) ((p134bbbfr 61 3 (by omega) (by omega) (by omega)).trans hf1) (by omega)), (Eq.trans (b := (((cc + m) + 1) : Int)) (zxu (by omega) p134hc1) (by omega)), ((zxu (by omega) ((p134bbbfr (k + 5) _ (by omega) (by omega) (by omega)).trans (zxu (by omega) rfl))).trans hs5), (by first | exact hm1 | (clear hQ; grind [xu])), ?_, (fun c j h0 h1 h2 h3 h4 => (zxcj h0 ((p134bbbfr c j (by omega) (by omega) (by omega)).trans (zxcj h0 ((fr c j (by omega) (by omega) (by omega) (by omega) (by omega)).trans rfl)))))⟩
                · intro i hi
                  by_cases e : i = m
                  · subst e
                    exact (zxu (by omega) p134bbhl1).trans f133
                  · exact (zxu (by omega) ((p134bbbfr (k + 7) _ (by omega) (by omega) (by omega)).trans (zxu (by omega) rfl))).trans (hl i (by omega))
              · refine And.intro (zA_61 hS) (zrd (v := ((q + 1) + 1)) rfl ?_)
                refine And.intro (zA_61 hS) ⟨_, (zWi (by omega)), ?_⟩
                refine hQ _ ?_ ?_ (fun c j h0 h1 h2 h3 h4 h5 => (zxcj h0 (zxcj h0 ((p134bbbfr c j (by omega) (by omega) (by omega)).trans (zxcj h0 ((fr c j (by omega) (by omega) (by omega) (by omega) (by omega)).trans rfl))))))
                · first
                  | exact zxe.trans (tXf_n (by omega)).symm
                  | exact zxe.trans (tXf_a h0 hq (by omega) hn (by omega) (by omega)).symm
                  | exact zxe.trans ((by omega : _ = ((q : Nat) : Int) + 1).trans (tXf_b h0 hq (by omega) hn (by omega) (by omega) (by omega) (by omega)).symm)
                  | exact (zxcj (by omega) (zxcj (by omega) ((p134bbbfr 61 _ (by omega) (by omega) (by omega)).trans (zxcj (by omega) ((fr 61 _ (by omega) (by omega) (by omega) (by omega) (by omega)).trans rfl))))).trans (hf0.trans (tXf_q (c := c) (p := p) (m := 0) (q := p + 1) (by omega) rfl (by omega) (fun i h => absurd h (Nat.not_lt_zero i)) (by omega)).1.symm)
                  | exact (zxcj (by omega) (zxcj (by omega) ((p134bbbfr 61 _ (by omega) (by omega) (by omega)).trans (zxcj (by omega) rfl)))).trans (hf1.trans (tXf_q h0 (m := m + 1) rfl (by omega) (tXs_up hn g134) (by omega)).1.symm)
                · intro h9
                  first
                  | (exfalso; rw [tXf_n (by omega)] at h9; omega)
                  | (exfalso; rw [tXf_a h0 hq (by omega) hn (by omega) (by omega)] at h9; omega)
                  | (exfalso; rw [tXf_b h0 hq (by omega) hn (by omega) (by omega) (by omega) (by omega)] at h9; omega)
                  | (have e := tXf_q (c := c) (p := p) (m := 0) (q := p + 1) (by omega) rfl (by omega) (fun i h => absurd h (Nat.not_lt_zero i)) (by omega)
                     rw [e.2.1, e.2.2]
                     exact ⟨zxe.trans (by omega), ((zxcj (by omega) (zxcj (by omega) ((p134bbbfr k _ (by omega) (by omega) (by omega)).trans (zxcj (by omega) ((fr k _ (by omega) (by omega) (by omega) (by omega) (by omega)).trans rfl))))).trans hcc).trans (by omega), zxu (by omega) p34hs, ((zxcj (by omega) (zxcj (by omega) ((p134bbbfr (k + 6) _ (by omega) (by omega) (by omega)).trans (zxcj (by omega) ((fr (k + 6) _ (by omega) (by omega) (by omega) (by omega) (by omega)).trans rfl))))).trans hm0).trans (by omega), (fun i h => absurd h (Nat.not_lt_zero i))⟩)
                  | (have e := tXf_q h0 (m := m + 1) rfl (by omega) (tXs_up hn g134) (by omega)
                     rw [e.2.1, e.2.2]
                     refine ⟨zxe.trans (by omega), (zxu (by omega) (zxu (by omega) p134hc1)).trans (by omega), (zxu (by omega) (zxu (by omega) ((p134bbbfr (k + 5) _ (by omega) (by omega) (by omega)).trans (zxu (by omega) rfl)))).trans hs5, (zxu (by omega) (zxu (by omega) p134bhm1)).trans (by omega), fun i hi => ?_⟩
                     by_cases e : i = m
                     · subst e
                       exact (zxu (by omega) (zxu (by omega) p134bbhl1)).trans f133
                     · exact (zxu (by omega) (zxu (by omega) ((p134bbbfr (k + 7) _ (by omega) (by omega) (by omega)).trans (zxu (by omega) rfl)))).trans (hl i (by omega)))
          · refine And.intro (zA_61 hS) ⟨_, sn_K_peek.up (by decide), ?_⟩
            refine ⟨c, n, (q + 1), rfl, hS, hR, htx, (by first | exact (zRD_fr hX (fun c j h => (zxcj (by omega) ((fr c j (by omega) (by omega) (by omega) (by omega) (by omega)).trans rfl)))) | (clear hQ; grind [xu])), (by first | exact hc | (clear hQ; grind [xu])), rfl, (by omega), ?_⟩
            intro v37_97o p37_97hv p37_97bhv2
            refine And.intro ⟨(by omega), (zRb rfl)⟩ ⟨fun h42_97 => ?_, fun h42_97 => ?_⟩
            · refine And.intro (zA_61 hS) (zrd (v := (-1)) hf1 ?_)
              refine And.intro ⟨(zRb rfl), (zRb rfl)⟩ (zbf rfl ?_)
              refine And.intro (zA_61 hS) (zrd (v := (q + 1)) rfl ?_)
              refine And.intro (zA_61 hS) (zrd (v := n) ((fr 61 1 (by omega) (by omega) (by omega) (by omega) (by omega)).trans x1) ?_)
              refine And.intro ⟨(by omega), (by omega)⟩ ⟨fun h116 => ?_, fun h116 => ?_⟩
              · refine And.intro (zA_61 hS) (zrd (v := (q + 1)) rfl ?_)
                refine And.intro (zA_61 hS) (Exists.intro _ (And.intro (zinl_ok (zT9_2 1)) (And.intro rfl ?_)))
                refine And.intro (zA_61 hS) (zrd (v := (-1)) hf1 ?_)
                refine And.intro ⟨(zRb rfl), (zRb rfl)⟩ (zbf rfl ?_)
                refine And.intro (zA_61 hS) ⟨_, (zWi (by omega)), ?_⟩
                refine And.intro ⟨(by omega), (zRb rfl)⟩ ⟨(fun h42 => False.elim (by omega)), fun h42 => ?_⟩
                refine And.intro (zA_61 hS) (zrd (v := (q + 1)) rfl ?_)
                refine And.intro ⟨(by omega), (zRb rfl)⟩ ⟨fun h50 => ?_, (fun h50 => False.elim (by omega))⟩
                refine hQ _ ?_ ?_ (fun c j h0 h1 h2 h3 h4 h5 => (zxcj h1 (zxcj h0 ((fr c j (by omega) (by omega) (by omega) (by omega) (by omega)).trans rfl))))
                · first
                  | exact zxe.trans (tXf_n (by omega)).symm
                  | exact zxe.trans (tXf_a h0 hq (by omega) hn (by omega) (by omega)).symm
                  | exact zxe.trans ((by omega : _ = ((q : Nat) : Int) + 1).trans (tXf_b h0 hq (by omega) hn (by omega) (by omega) (by omega) (by omega)).symm)
                  | exact (zxcj (by omega) (zxcj (by omega) ((fr 61 _ (by omega) (by omega) (by omega) (by omega) (by omega)).trans rfl))).trans (hf0.trans (tXf_q (c := c) (p := p) (m := 0) (q := p + 1) (by omega) rfl (by omega) (fun i h => absurd h (Nat.not_lt_zero i)) (by omega)).1.symm)
                  | exact (zxcj (by omega) (zxcj (by omega) rfl)).trans (hf1.trans (tXf_q h0 (m := m + 1) rfl (by omega) (tXs_up hn g134) (by omega)).1.symm)
                · intro h9
                  first
                  | (exfalso; rw [tXf_n (by omega)] at h9; omega)
                  | (exfalso; rw [tXf_a h0 hq (by omega) hn (by omega) (by omega)] at h9; omega)
                  | (exfalso; rw [tXf_b h0 hq (by omega) hn (by omega) (by omega) (by omega) (by omega)] at h9; omega)
                  | (have e := tXf_q (c := c) (p := p) (m := 0) (q := p + 1) (by omega) rfl (by omega) (fun i h => absurd h (Nat.not_lt_zero i)) (by omega)
                     rw [e.2.1, e.2.2]
                     exact ⟨zxe.trans (by omega), ((zxcj (by omega) (zxcj (by omega) ((fr k _ (by omega) (by omega) (by omega) (by omega) (by omega)).trans rfl))).trans hcc).trans (by omega), zxu (by omega) p34hs, ((zxcj (by omega) (zxcj (by omega) ((fr (k + 6) _ (by omega) (by omega) (by omega) (by omega) (by omega)).trans rfl))).trans hm0).trans (by omega), (fun i h => absurd h (Nat.not_lt_zero i))⟩)
                  | (have e := tXf_q h0 (m := m + 1) rfl (by omega) (tXs_up hn g134) (by omega)
                     rw [e.2.1, e.2.2]
                     refine ⟨zxe.trans (by omega), (zxu (by omega) (zxu (by omega) p134hc1)).trans (by omega), (zxu (by omega) (zxu (by omega) rfl)).trans hs5, (zxu (by omega) (zxu (by omega) p134bhm1)).trans (by omega), fun i hi => ?_⟩
                     by_cases e : i = m
                     · subst e
                       exact (zxu (by omega) (zxu (by omega) p134bbhl1)).trans f133
                     · exact (zxu (by omega) (zxu (by omega) rfl)).trans (hl i (by omega)))
              · refine And.intro (zA_61 hS) (zrdR (v := some k) hob ?_)
                refine And.intro (zA_61 hS) (zrdR (v := some 42) htx ?_)
                refine And.intro (zA_61 hS) (zrd (v := (q + 1)) rfl ?_)
                refine And.intro (zP_42 hS (by omega) (by omega)) (fun v133 e133 r133 => ?_)
                have f133 : v133 = tLt c p m := (by first | exact (e133.trans ((zxcj (by omega) ((fr 42 _ (by omega) (by omega) (by omega) (by omega) (by omega)).trans rfl)).trans ((congrArg (I 42) (by omega)).trans (x2 q (by omega))))).trans (let_.2 (by omega)).symm | exact (e133.trans ((zxcj (by omega) ((fr 42 _ (by omega) (by omega) (by omega) (by omega) (by omega)).trans rfl)).trans ((congrArg (I 42) (by omega)).trans (x2 (q + 1) (by omega))))).trans (let_.1 (by omega)).symm)
                have f133b : 10 ≤ tLt c p m ∧ tLt c p m ≤ 126 := (by have e := let_; omega)
                refine And.intro (zDX hD 0 rfl) ⟨_, sn_O_adl.up (by decide), ?_⟩
                refine ⟨k, a9, (a_ : Int), a_, (w_ : Int), w_, (cc + m), (v133 : Int), m, rfl, hS, hR, hD, (zxu (by omega) ((fr k 0 (by omega) (by omega) (by omega) (by omega) (by omega)).trans ho0)), (by omega), (by omega), (by omega), (zxu (by omega) hc1), (by omega), (by omega), (by clear hQ; grind [xu]), (by omega), ?_⟩
                intro I134o p134hc1 p134bhm1 p134bbhl1 p134bbbfr
                have g134 : ¬ tXs c p m := (tXs_n hq (by omega) (by omega) (by omega) (by omega))
                have g134b : tPo c p (m + 1) ≤ n ∧ p + 2 + m ≤ tPo c p (m + 1) := (by by_cases e : c q = 92; (rw [pos.1 e]; omega); (rw [pos.2 e]; omega))
                refine And.intro (zA_61 hS) (zrd (v := (q + 1)) ((p134bbbfr 61 2 (by omega) (by omega) (by omega)).trans rfl) ?_)
                refine And.intro (zA_61 hS) ⟨_, (zWi (by omega)), ?_⟩
                refine And.intro ⟨(by omega), (zRb rfl)⟩ ⟨(fun h42 => False.elim (by omega)), fun h42 => ?_⟩
                refine And.intro (zA_61 hS) (zrd (v := (-1)) ((p134bbbfr 61 3 (by omega) (by omega) (by omega)).trans hf1) ?_)
                refine And.intro ⟨(zRb rfl), (zRb rfl)⟩ (zbf rfl ?_)
                refine And.intro (zA_61 hS) ⟨_, sn_K_peek.up (by decide), ?_⟩
                refine ⟨c, n, (tPo c p (m + 1)), rfl, hS, hR, htx, (by first | exact (zRD_fr hX (fun c j h => (zxcj (by omega) ((p134bbbfr c j (by omega) (by omega) (by omega)).trans (zxcj (by omega) ((fr c j (by omega) (by omega) (by omega) (by omega) (by omega)).trans rfl)))))) | (clear hQ; grind [xu])), (by first | exact hc | (clear hQ; grind [xu])), (Eq.trans (b := (((q + 1) + 1) : Int)) rfl (by omega)), (by omega), ?_⟩
                intro v54o p54hv p54bhv2
                refine And.intro ⟨(by omega), (zRb rfl)⟩ ⟨fun h59 => ?_, fun h59 => ?_⟩
                · refine ⟨((41 - (m + 1)), 0, 0), zlt6 (by omega), [some (zvr (61)), some (zvi (a_)), some (zvi (w_)), some (zvi ((m + 1)))], ⟨rfl, rfl, rfl, rfl, rfl⟩, (m + 1), (tPo c p (m + 1)), rfl, rfl, rfl, rfl, rfl, rfl, h0, (by omega), rfl, (by omega), (by omega), (tXs_up hn g134), (zxe.trans (by omega)), (Eq.trans (b := ((-1) : Int)) ((p134bbbfr 61 3 (by omega) (by omega) (by omega)).trans hf1) (by omega)), (Eq.trans (b := (((cc + m) + 1) : Int)) (zxu (by omega) p134hc1) (by omega)), ((zxu (by omega) ((p134bbbfr (k + 5) _ (by omega) (by omega) (by omega)).trans (zxu (by omega) rfl))).trans hs5), (by first | exact hm1 | (clear hQ; grind [xu])), ?_, (fun c j h0 h1 h2 h3 h4 => (zxcj h0 ((p134bbbfr c j (by omega) (by omega) (by omega)).trans (zxcj h0 ((fr c j (by omega) (by omega) (by omega) (by omega) (by omega)).trans rfl)))))⟩
                  · intro i hi
                    by_cases e : i = m
                    · subst e
                      exact (zxu (by omega) p134bbhl1).trans f133
                    · exact (zxu (by omega) ((p134bbbfr (k + 7) _ (by omega) (by omega) (by omega)).trans (zxu (by omega) rfl))).trans (hl i (by omega))
                · refine And.intro (zA_61 hS) (zrd (v := ((q + 1) + 1)) rfl ?_)
                  refine And.intro (zA_61 hS) ⟨_, (zWi (by omega)), ?_⟩
                  refine hQ _ ?_ ?_ (fun c j h0 h1 h2 h3 h4 h5 => (zxcj h0 (zxcj h0 ((p134bbbfr c j (by omega) (by omega) (by omega)).trans (zxcj h0 ((fr c j (by omega) (by omega) (by omega) (by omega) (by omega)).trans rfl))))))
                  · first
                    | exact zxe.trans (tXf_n (by omega)).symm
                    | exact zxe.trans (tXf_a h0 hq (by omega) hn (by omega) (by omega)).symm
                    | exact zxe.trans ((by omega : _ = ((q : Nat) : Int) + 1).trans (tXf_b h0 hq (by omega) hn (by omega) (by omega) (by omega) (by omega)).symm)
                    | exact (zxcj (by omega) (zxcj (by omega) ((p134bbbfr 61 _ (by omega) (by omega) (by omega)).trans (zxcj (by omega) ((fr 61 _ (by omega) (by omega) (by omega) (by omega) (by omega)).trans rfl))))).trans (hf0.trans (tXf_q (c := c) (p := p) (m := 0) (q := p + 1) (by omega) rfl (by omega) (fun i h => absurd h (Nat.not_lt_zero i)) (by omega)).1.symm)
                    | exact (zxcj (by omega) (zxcj (by omega) ((p134bbbfr 61 _ (by omega) (by omega) (by omega)).trans (zxcj (by omega) rfl)))).trans (hf1.trans (tXf_q h0 (m := m + 1) rfl (by omega) (tXs_up hn g134) (by omega)).1.symm)
                  · intro h9
                    first
                    | (exfalso; rw [tXf_n (by omega)] at h9; omega)
                    | (exfalso; rw [tXf_a h0 hq (by omega) hn (by omega) (by omega)] at h9; omega)
                    | (exfalso; rw [tXf_b h0 hq (by omega) hn (by omega) (by omega) (by omega) (by omega)] at h9; omega)
                    | (have e := tXf_q (c := c) (p := p) (m := 0) (q := p + 1) (by omega) rfl (by omega) (fun i h => absurd h (Nat.not_lt_zero i)) (by omega)
                       rw [e.2.1, e.2.2]
                       exact ⟨zxe.trans (by omega), ((zxcj (by omega) (zxcj (by omega) ((p134bbbfr k _ (by omega) (by omega) (by omega)).trans (zxcj (by omega) ((fr k _ (by omega) (by omega) (by omega) (by omega) (by omega)).trans rfl))))).trans hcc).trans (by omega), zxu (by omega) p34hs, ((zxcj (by omega) (zxcj (by omega) ((p134bbbfr (k + 6) _ (by omega) (by omega) (by omega)).trans (zxcj (by omega) ((fr (k + 6) _ (by omega) (by omega) (by omega) (by omega) (by omega)).trans rfl))))).trans hm0).trans (by omega), (fun i h => absurd h (Nat.not_lt_zero i))⟩)
                    | (have e := tXf_q h0 (m := m + 1) rfl (by omega) (tXs_up hn g134) (by omega)
                       rw [e.2.1, e.2.2]
                       refine ⟨zxe.trans (by omega), (zxu (by omega) (zxu (by omega) p134hc1)).trans (by omega), (zxu (by omega) (zxu (by omega) ((p134bbbfr (k + 5) _ (by omega) (by omega) (by omega)).trans (zxu (by omega) rfl)))).trans hs5, (zxu (by omega) (zxu (by omega) p134bhm1)).trans (by omega), fun i hi => ?_⟩
                       by_cases e : i = m
                       · subst e
                         exact (zxu (by omega) (zxu (by omega) p134bbhl1)).trans f133
                       · exact (zxu (by omega) (zxu (by omega) ((p134bbbfr (k + 7) _ (by omega) (by omega) (by omega)).trans (zxu (by omega) rfl)))).trans (hl i (by omega)))
            · refine And.intro (zA_61 hS) (zrd (v := (q + 1)) rfl ?_)
              refine And.intro (zA_61 hS) (Exists.intro _ (And.intro (zinl_ok (zT9_2 0)) (And.intro rfl ?_)))
              refine And.intro (zA_61 hS) (zrd (v := (-1)) hf1 ?_)
              refine And.intro ⟨(zRb rfl), (zRb rfl)⟩ (zbf rfl ?_)
              refine And.intro (zA_61 hS) ⟨_, (zWi (by omega)), ?_⟩
              refine And.intro (zA_61 hS) (zrd (v := (q + 1)) rfl ?_)
              refine And.intro ⟨(by omega), (zRb rfl)⟩ ⟨fun h105 => ?_, (fun h105 => False.elim (by omega))⟩
              refine And.intro (zA_61 hS) (zrd (v := (q + 1)) rfl ?_)
              refine And.intro (zA_61 hS) (Exists.intro _ (And.intro (zinl_ok (zT9_2 1)) (And.intro rfl ?_)))
              refine And.intro (zA_61 hS) (zrd (v := (q + 1)) rfl ?_)
              refine And.intro ⟨(by omega), (zRb rfl)⟩ ⟨fun h5_155 => ?_, (fun h5_155 => False.elim (by omega))⟩
              refine And.intro ⟨(by omega), (zRb rfl)⟩ ⟨(fun h42 => False.elim (by omega)), fun h42 => ?_⟩
              refine And.intro (zA_61 hS) (zrd (v := (q + 1)) rfl ?_)
              refine And.intro ⟨(by omega), (zRb rfl)⟩ ⟨fun h50 => ?_, (fun h50 => False.elim (by omega))⟩
              refine hQ _ ?_ ?_ (fun c j h0 h1 h2 h3 h4 h5 => (zxcj h1 (zxcj h0 ((fr c j (by omega) (by omega) (by omega) (by omega) (by omega)).trans rfl))))
              · first
                | exact zxe.trans (tXf_n (by omega)).symm
                | exact zxe.trans (tXf_a h0 hq (by omega) hn (by omega) (by omega)).symm
                | exact zxe.trans ((by omega : _ = ((q : Nat) : Int) + 1).trans (tXf_b h0 hq (by omega) hn (by omega) (by omega) (by omega) (by omega)).symm)
                | exact (zxcj (by omega) (zxcj (by omega) ((fr 61 _ (by omega) (by omega) (by omega) (by omega) (by omega)).trans rfl))).trans (hf0.trans (tXf_q (c := c) (p := p) (m := 0) (q := p + 1) (by omega) rfl (by omega) (fun i h => absurd h (Nat.not_lt_zero i)) (by omega)).1.symm)
                | exact (zxcj (by omega) (zxcj (by omega) rfl)).trans (hf1.trans (tXf_q h0 (m := m + 1) rfl (by omega) (tXs_up hn g134) (by omega)).1.symm)
              · intro h9
                first
                | (exfalso; rw [tXf_n (by omega)] at h9; omega)
                | (exfalso; rw [tXf_a h0 hq (by omega) hn (by omega) (by omega)] at h9; omega)
                | (exfalso; rw [tXf_b h0 hq (by omega) hn (by omega) (by omega) (by omega) (by omega)] at h9; omega)
                | (have e := tXf_q (c := c) (p := p) (m := 0) (q := p + 1) (by omega) rfl (by omega) (fun i h => absurd h (Nat.not_lt_zero i)) (by omega)
                   rw [e.2.1, e.2.2]
                   exact ⟨zxe.trans (by omega), ((zxcj (by omega) (zxcj (by omega) ((fr k _ (by omega) (by omega) (by omega) (by omega) (by omega)).trans rfl))).trans hcc).trans (by omega), zxu (by omega) p34hs, ((zxcj (by omega) (zxcj (by omega) ((fr (k + 6) _ (by omega) (by omega) (by omega) (by omega) (by omega)).trans rfl))).trans hm0).trans (by omega), (fun i h => absurd h (Nat.not_lt_zero i))⟩)
                | (have e := tXf_q h0 (m := m + 1) rfl (by omega) (tXs_up hn g134) (by omega)
                   rw [e.2.1, e.2.2]
                   refine ⟨zxe.trans (by omega), (zxu (by omega) (zxu (by omega) p134hc1)).trans (by omega), (zxu (by omega) (zxu (by omega) rfl)).trans hs5, (zxu (by omega) (zxu (by omega) p134bhm1)).trans (by omega), fun i hi => ?_⟩
                   by_cases e : i = m
                   · subst e
                     exact (zxu (by omega) (zxu (by omega) p134bbhl1)).trans f133
                   · exact (zxu (by omega) (zxu (by omega) rfl)).trans (hl i (by omega)))
      · refine And.intro (zA_61 hS) (zrd (v := q) hpl ?_)
        refine And.intro (zA_61 hS) (Exists.intro _ (And.intro (zinl_ok (zT9_2 1)) (And.intro rfl ?_)))
        refine And.intro (zA_61 hS) (zrd (v := (-1)) hf1 ?_)
        refine And.intro ⟨(zRb rfl), (zRb rfl)⟩ (zbf rfl ?_)
        refine And.intro (zA_61 hS) ⟨_, (zWi (by omega)), ?_⟩
        refine And.intro (zA_61 hS) (Exists.intro _ (And.intro (zinl_ok (zT9_26 1)) (And.intro rfl ?_)))
        refine And.intro (zA_61 hS) (zrd (v := q) rfl ?_)
        refine And.intro ⟨(by omega), (zRb rfl)⟩ ⟨fun h5_97 => ?_, (fun h5_97 => False.elim (by omega))⟩
        refine And.intro (zA_61 hS) (zrd (v := q) rfl ?_)
        refine And.intro ⟨(by omega), (zRb rfl)⟩ ⟨fun h105 => ?_, (fun h105 => False.elim (by omega))⟩
        refine And.intro (zA_61 hS) (zrd (v := q) hpl ?_)
        refine And.intro (zA_61 hS) (Exists.intro _ (And.intro (zinl_ok (zT9_2 1)) (And.intro rfl ?_)))
        refine And.intro (zA_61 hS) (zrd (v := q) rfl ?_)
        refine And.intro ⟨(by omega), (zRb rfl)⟩ ⟨fun h5_155 => ?_, (fun h5_155 => False.elim (by omega))⟩
        refine And.intro ⟨(by omega), (zRb rfl)⟩ ⟨(fun h42 => False.elim (by omega)), fun h42 => ?_⟩
        refine And.intro (zA_61 hS) (zrd (v := q) rfl ?_)
        refine And.intro ⟨(by omega), (zRb rfl)⟩ ⟨fun h50 => ?_, (fun h50 => False.elim (by omega))⟩
        refine hQ _ ?_ ?_ (fun c j h0 h1 h2 h3 h4 h5 => (zxcj h1 ((fr c j (by omega) (by omega) (by omega) (by omega) (by omega)).trans rfl)))
        · first
          | exact zxe.trans (tXf_n (by omega)).symm
          | exact zxe.trans (tXf_a h0 hq (by omega) hn (by omega) (by omega)).symm
          | exact zxe.trans ((by omega : _ = ((q : Nat) : Int) + 1).trans (tXf_b h0 hq (by omega) hn (by omega) (by omega) (by omega) (by omega)).symm)
          | exact (zxcj (by omega) ((fr 61 _ (by omega) (by omega) (by omega) (by omega) (by omega)).trans rfl)).trans (hf0.trans (tXf_q (c := c) (p := p) (m := 0) (q := p + 1) (by omega) rfl (by omega) (fun i h => absurd h (Nat.not_lt_zero i)) (by omega)).1.symm)
          | exact (zxcj (by omega) rfl).trans (hf1.trans (tXf_q h0 (m := m + 1) rfl (by omega) (tXs_up hn g134) (by omega)).1.symm)
        · intro h9
          first
          | (exfalso; rw [tXf_n (by omega)] at h9; omega)
          | (exfalso; rw [tXf_a h0 hq (by omega) hn (by omega) (by omega)] at h9; omega)
          | (exfalso; rw [tXf_b h0 hq (by omega) hn (by omega) (by omega) (by omega) (by omega)] at h9; omega)
          | (have e := tXf_q (c := c) (p := p) (m := 0) (q := p + 1) (by omega) rfl (by omega) (fun i h => absurd h (Nat.not_lt_zero i)) (by omega)
             rw [e.2.1, e.2.2]
             exact ⟨zxe.trans (by omega), ((zxcj (by omega) ((fr k _ (by omega) (by omega) (by omega) (by omega) (by omega)).trans rfl)).trans hcc).trans (by omega), zxu (by omega) p34hs, ((zxcj (by omega) ((fr (k + 6) _ (by omega) (by omega) (by omega) (by omega) (by omega)).trans rfl)).trans hm0).trans (by omega), (fun i h => absurd h (Nat.not_lt_zero i))⟩)
          | (have e := tXf_q h0 (m := m + 1) rfl (by omega) (tXs_up hn g134) (by omega)
             rw [e.2.1, e.2.2]
             refine ⟨zxe.trans (by omega), (zxu (by omega) (zxu (by omega) p134hc1)).trans (by omega), (zxu (by omega) rfl).trans hs5, (zxu (by omega) (zxu (by omega) p134bhm1)).trans (by omega), fun i hi => ?_⟩
             by_cases e : i = m
             · subst e
               exact (zxu (by omega) (zxu (by omega) p134bbhl1)).trans f133
             · exact (zxu (by omega) rfl).trans (hl i (by omega))))
