/-! kx -/
def T_K_gap2 : ZT := fun args I L R S Q => ∃ (c : Nat → Int) (n : Nat) (p : Nat) (b : Nat), args = [zvr 61] ∧ (zSh S) ∧ (zRs R) ∧ (R 61 0 = some 42) ∧ (zRD c n I) ∧ (tOk c n) ∧ (I 61 2 = p) ∧ (p ≤ 5000) ∧ (I 61 6 = b) ∧ (b ≤ 1) ∧ (I 61 3 = -1) ∧ ∀ (I' : ZI) (pl : Int), ((tGk c p b ∧ I' 61 3 = -1 ∧ I' 61 2 = tGe c n p b) ∨ (¬ tGk c p b ∧ I' 61 3 = p)) → (∀ c j : Nat, ¬ (c = 61 ∧ j = 2) → ¬ (c = 61 ∧ j = 3) → I' c j = I c j) → (I' 61 2 = pl) → (0 ≤ pl ∧ (pl ≤ p + 100 ∨ pl ≤ n + 2)) → Q none I' L R S
theorem sn_K_gap2 : ZSnd 2 9 15 T_K_gap2 := ZSnd.of (zT9_15 1) (by
  rintro args I L R S Q hz ⟨c, n, p, b, rfl, hS, hR, htx, hX, hc, hp, hp9, hnb, hb, hf0, hQ⟩
  obtain ⟨x1, x2⟩ := id hX
  have hn4 := hc.1
  have hskb := tSk_b (P := tBk) (p := p + 1) hc tBk_no
  refine And.intro rfl ?_
  refine And.intro (zA_61 hS) ⟨_, sn_K_peek.up (by decide), ?_⟩
  refine ⟨c, n, p, rfl, hS, hR, htx, (by first | exact (zRD_fr hX (fun c j h => rfl)) | (clear hQ; grind [xu])), (by first | exact hc | (clear hQ; grind [xu])), hp, (by omega), ?_⟩
  intro v1o p1hv p1bhv2
  refine And.intro ⟨(by omega), (zRb rfl)⟩ ⟨fun h6 => ?_, fun h6 => ?_⟩
  · refine And.intro (zA_61 hS) (zrd (v := p) hp ?_)
    refine And.intro (zA_61 hS) ⟨_, (zWi (by omega)), ?_⟩
    refine And.intro (zA_61 hS) (zrd (v := b) hnb ?_)
    refine And.intro (by omega) ⟨fun h48 => ?_, fun h48 => ?_⟩
    · refine hQ _ ((p + 1) : Int) ?_ (fun c j h0 h1 => (zxcj h0 rfl)) rfl (by omega)
      · first
        | exact Or.inr ⟨fun w => by unfold tGk at w; omega, zxe.trans (by omega)⟩
        | exact Or.inl ⟨by unfold tGk; omega, (zxcj (by omega) rfl).trans hf0, by rw [tGe_1 (by omega)]; exact p52hpl⟩
        | exact Or.inl ⟨by unfold tGk; omega, (zxcj (by omega) rfl).trans hf0, by rw [tGe_0 (by omega)]; exact zxe.trans (by omega)⟩
    · refine And.intro (zA_61 hS) ⟨_, sn_K_skB.up (by decide), ?_⟩
      refine ⟨c, n, (p + 1), rfl, hS, hR, htx, (by first | exact (zRD_fr hX (fun c j h => (zxcj (by omega) rfl))) | (clear hQ; grind [xu])), (by first | exact hc | (clear hQ; grind [xu])), rfl, (by omega), ?_⟩
      intro I52o p52hpl p52bfr
      refine hQ _ ((tSk tBk c n (p + 1)) : Int) ?_ (fun c j h0 h1 => ((p52bfr c j (by omega)).trans (zxcj h0 rfl))) p52hpl (by omega)
      · first
        | exact Or.inr ⟨fun w => by unfold tGk at w; omega, zxe.trans (by omega)⟩
        | exact Or.inl ⟨by unfold tGk; omega, ((p52bfr 61 _ (by omega)).trans (zxcj (by omega) rfl)).trans hf0, by rw [tGe_1 (by omega)]; exact p52hpl⟩
        | exact Or.inl ⟨by unfold tGk; omega, ((p52bfr 61 _ (by omega)).trans (zxcj (by omega) rfl)).trans hf0, by rw [tGe_0 (by omega)]; exact zxe.trans (by omega)⟩
  · refine And.intro (zA_61 hS) (zrd (v := b) hnb ?_)
    refine And.intro (by omega) ⟨fun h13 => ?_, fun h13 => ?_⟩
    · refine And.intro (zA_61 hS) (zrd (v := p) hp ?_)
      refine And.intro (zA_61 hS) (Exists.intro _ (And.intro (zinl_ok (zT9_2 0)) (And.intro rfl ?_)))
      refine And.intro (zA_61 hS) (zrd (v := (-1)) hf0 ?_)
      refine And.intro ⟨(zRb rfl), (zRb rfl)⟩ (zbf rfl ?_)
      refine And.intro (zA_61 hS) ⟨_, (zWi (by omega)), ?_⟩
      refine hQ _ (p : Int) ?_ (fun c j h0 h1 => (zxcj h1 rfl)) hp (by omega)
      · first
        | exact Or.inr ⟨fun w => by unfold tGk at w; omega, zxe.trans (by omega)⟩
        | exact Or.inl ⟨by unfold tGk; omega, (zxcj (by omega) rfl).trans hf0, by rw [tGe_1 (by omega)]; exact p52hpl⟩
        | exact Or.inl ⟨by unfold tGk; omega, (zxcj (by omega) rfl).trans hf0, by rw [tGe_0 (by omega)]; exact zxe.trans (by omega)⟩
    · refine And.intro (zA_61 hS) ⟨_, sn_K_peek.up (by decide), ?_⟩
      refine ⟨c, n, p, rfl, hS, hR, htx, (by first | exact (zRD_fr hX (fun c j h => rfl)) | (clear hQ; grind [xu])), (by first | exact hc | (clear hQ; grind [xu])), hp, (by omega), ?_⟩
      intro v17o p17hv p17bhv2
      refine And.intro ⟨(by omega), (zRb rfl)⟩ ⟨fun h22 => ?_, fun h22 => ?_⟩
      · refine And.intro (zA_61 hS) (zrd (v := p) hp ?_)
        refine And.intro (zA_61 hS) ⟨_, (zWi (by omega)), ?_⟩
        refine And.intro (zA_61 hS) (zrd (v := b) hnb ?_)
        refine And.intro (by omega) ⟨(fun h48 => False.elim (by omega)), fun h48 => ?_⟩
        refine And.intro (zA_61 hS) ⟨_, sn_K_skB.up (by decide), ?_⟩
        refine ⟨c, n, (p + 1), rfl, hS, hR, htx, (by first | exact (zRD_fr hX (fun c j h => (zxcj (by omega) rfl))) | (clear hQ; grind [xu])), (by first | exact hc | (clear hQ; grind [xu])), rfl, (by omega), ?_⟩
        intro I52o p52hpl p52bfr
        refine hQ _ ((tSk tBk c n (p + 1)) : Int) ?_ (fun c j h0 h1 => ((p52bfr c j (by omega)).trans (zxcj h0 rfl))) p52hpl (by omega)
        · first
          | exact Or.inr ⟨fun w => by unfold tGk at w; omega, zxe.trans (by omega)⟩
          | exact Or.inl ⟨by unfold tGk; omega, ((p52bfr 61 _ (by omega)).trans (zxcj (by omega) rfl)).trans hf0, by rw [tGe_1 (by omega)]; exact p52hpl⟩
          | exact Or.inl ⟨by unfold tGk; omega, ((p52bfr 61 _ (by omega)).trans (zxcj (by omega) rfl)).trans hf0, by rw [tGe_0 (by omega)]; exact zxe.trans (by omega)⟩
      · refine And.intro (zA_61 hS) (zrd (v := p) hp ?_)
        refine And.intro (zA_61 hS) (Exists.intro _ (And.intro (zinl_ok (zT9_2 0)) (And.intro rfl ?_)))
        refine And.intro (zA_61 hS) (zrd (v := (-1)) hf0 ?_)
        refine And.intro ⟨(zRb rfl), (zRb rfl)⟩ (zbf rfl ?_)
        refine And.intro (zA_61 hS) ⟨_, (zWi (by omega)), ?_⟩
        refine hQ _ (p : Int) ?_ (fun c j h0 h1 => (zxcj h1 rfl)) hp (by omega)
        · first
          | exact Or.inr ⟨fun w => by unfold tGk at w; omega, zxe.trans (by omega)⟩
          | exact Or.inl ⟨by unfold tGk; omega, (zxcj (by omega) rfl).trans hf0, by rw [tGe_1 (by omega)]; exact p52hpl⟩
          | exact Or.inl ⟨by unfold tGk; omega, (zxcj (by omega) rfl).trans hf0, by rw [tGe_0 (by omega)]; exact zxe.trans (by omega)⟩)
def T_K_num2 : ZT := fun args I L R S Q => ∃ (c : Nat → Int) (n : Nat) (p : Nat) (k : Nat) (a9 : Int) (a : Int) (a_ : Nat) (f : Int) (w : Int) (w_ : Nat), args = [zvr 61, zvi a, zvi f, zvi w] ∧ (zSh S) ∧ (zRs R) ∧ (zSt I L) ∧ (R 61 0 = some 42) ∧ (zRD c n I) ∧ (tOk c n) ∧ (I 61 2 = p) ∧ (p ≤ 5000) ∧ (R 61 7 = some k) ∧ (zDy zT2 zF2 k R S) ∧ (43 ≤ k ∧ k ≤ 52) ∧ (I k 0 = a9) ∧ (0 ≤ a9 ∧ a9 ≤ 200) ∧ (a = a_ ∧ a_ < a9) ∧ (0 ≤ f ∧ f ≤ 126) ∧ (w = w_ ∧ w_ < 5) ∧ (I 61 3 = -1) ∧ ∀ (I' : ZI) (L' : ZI) (pl : Int), (I' 61 3 = (tNf c n p (tLen f) (tLo f) (tHi f))) → ((tNf c n p (tLen f) (tLo f) (tHi f)) = -1 → I' 61 2 = tNe c n p (tLen f) ∧ (f = 86 → I' 61 5 = tNv c n p (tLen f)) ∧ (f ≠ 86 → L' (k + 4) (5 * a_ + w_) = tNv c n p (tLen f) ∧ I' 61 5 = I 61 5)) → (∀ c j : Nat, ¬ (c = 61 ∧ j = 2) → ¬ (c = 61 ∧ j = 3) → ¬ (c = 61 ∧ j = 5) → I' c j = I c j) → (∀ c j : Nat, ¬ (c = k + 4 ∧ (f ≠ 86 ∧ j = 5 * a_ + w_)) → L' c j = L c j) → (I' 61 2 = pl) → (0 ≤ pl ∧ (pl ≤ p + 100 ∨ pl ≤ n + 2)) → Q none I' L' R S
theorem sn_K_num2 : ZSnd 3 9 21 T_K_num2 := ZSnd.loops (zT9_21 2) (by
  rintro args I L R S Q hz ⟨c, n, p, k, a9, a, a_, f, w, w_, rfl, hS, hR, hT, htx, hX, hc, hp, hp9, hob, hD, hk, ho0, ha9, ha, hfr, hw, hf0, hQ⟩
  obtain ⟨x1, x2⟩ := id hX
  have hn4 := hc.1
  have t16 : L 1 6 = 1000000 := zSt_10 hT (by decide)
  have hns := tNs_le (c := c) (p := p)
  have hk1 := hk.1
  have hk2 := hk.2
  refine ⟨[130], fun nM tM lsM stM I1 L1 R1 S1 => match tM with
      | 130 => ∃ (mi : Int) (x : Int) (fv : Int) (pl : Int), nM = (1, 0, 0) ∧ lsM = [some (zvr (61)), some (zvi (a_)), some (zvi (f)), some (zvi (w_)), some (zvi (p)), some (zvi (mi)), some (zvl (x)), none, none, none, none] ∧ stM = [] ∧ L1 = L ∧ R1 = R ∧ S1 = S ∧ ((mi = 1 ∧ c p = 45) ∨ (mi = 0 ∧ ¬ c p = 45)) ∧ (0 ≤ mi ∧ mi ≤ 1) ∧ (I1 61 3 = fv) ∧ (I1 61 2 = pl) ∧ (p ≤ pl ∧ pl ≤ p + 100) ∧ ((fv = -1 ∧ ¬ tBd c (tNs c p) (tNq c n p) ∧ ¬ (tFr c (tNq c n p) (tLen f) ∧ tBd c (tNq c n p + 1) (tNr c n p)) ∧ x = tNu c n p (tLen f) ∧ I1 61 2 = tNe c n p (tLen f)) ∨ (0 ≤ fv ∧ fv ≤ 9000 ∧ (tNf c n p (tLen f) (tLo f) (tHi f)) = fv)) ∧ (f ≠ 78 → x ≤ 9999) ∧ (0 ≤ x ∧ x ≤ 9999999999) ∧ (∀ c j : Nat, ¬ (c = 61 ∧ j = 2) → ¬ (c = 61 ∧ j = 3) → I1 c j = I c j)
      | _ => False, rfl, ?_, ⟨?_, True.intro⟩⟩
  · refine And.intro (zA_61 hS) (zrd (v := p) hp ?_)
    refine And.intro (zA_61 hS) ⟨_, sn_K_peek.up (by decide), ?_⟩
    refine ⟨c, n, p, rfl, hS, hR, htx, (by first | exact (zRD_fr hX (fun c j h => rfl)) | (clear hQ; grind [xu])), (by first | exact hc | (clear hQ; grind [xu])), hp, (by omega), ?_⟩
    intro v7o p7hv p7bhv2
    refine And.intro ⟨(by omega), (zRb rfl)⟩ ⟨fun h12 => ?_, fun h12 => ?_⟩
    · have t12 : tNs c p = p := (tNs_n (by omega))
      refine And.intro (zRb rfl) (zbt rfl ?_)
      refine And.intro (zA_61 hS) ⟨_, sn_K_dig.up (by decide), ?_⟩
      refine ⟨c, n, (tNs c p), (4 : Int), 4, rfl, hS, hR, htx, (by first | exact (zRD_fr hX (fun c j h => rfl)) | (clear hQ; grind [xu])), (by first | exact hc | (clear hQ; grind [xu])), (Eq.trans (b := (p : Int)) hp (by omega)), (by omega), (by omega), (Eq.trans (b := ((-1) : Int)) hf0 (by omega)), ?_⟩
      intro v39o I39o p39hpl p39bhv p39bbhf p39bbbfr
      have g39 : I39o 61 2 = tNq c n p := p39hpl
      have g39b : v39o = tVl c (tNs c p) (tNq c n p - tNs c p) := p39bhv
      have g39bb : tNs c p ≤ tNq c n p ∧ tNq c n p ≤ tNs c p + 4 := (by have w := tDe_sp (p := tNs c p) (m := 4) hc; exact ⟨w.1, w.2.1⟩)
      have g39bbb : 0 ≤ v39o ∧ v39o ≤ 9999 := (by have w := tDe_sp (p := tNs c p) (m := 4) hc; have w2 := tVl_b (c := c) (p := tNs c p) (n := tNq c n p - tNs c p) (fun i h1 h2 => w.2.2.1 i h1 (by show i < tNq c n p; omega)) (Nat.le_refl _); omega)
      rcases p39bbhf with w42 | w42
      · refine And.intro ⟨(by omega), (zRb rfl)⟩ ⟨fun h47 => ?_, fun h47 => ?_⟩
        · have t47 : tLen f = 0 := (if_neg (by omega))
          have t47b : ¬ tFr c (tNq c n p) (tLen f) := (fun w => by have w1 := w.1; have e : tLen f = 0 := if_neg (by omega); omega)
          have t47bb : tNu c n p (tLen f) = tVl c (tNs c p) (tNq c n p - tNs c p) := (tNu_0 (by rw [t47]; decide))
          refine And.intro ⟨(by omega), (zRb rfl)⟩ ⟨fun h64 => ?_, (fun h64 => False.elim (by omega))⟩
          refine ⟨(1, 0, 0), [some (zvr (61)), some (zvi (a_)), some (zvi (f)), some (zvi (w_)), some (zvi (p)), some (zvi ((0 : Int))), some (zvl (v39o)), none, none, none, none], ⟨rfl, (congrArg (fun z => some (zvi z)) (by omega)), rfl, (congrArg (fun z => some (zvi z)) (by omega)), rfl, rfl, rfl, rfl⟩, 0, v39o, (-1), (tDe c n (tNs c p) 4), rfl, rfl, rfl, rfl, rfl, rfl, (by first | exact Or.inl ⟨rfl, by omega⟩ | exact Or.inr ⟨rfl, by omega⟩), (by omega), w42.2, p39hpl, (by omega), ?_, (by omega), (by omega), (fun c j h0 h1 => ((p39bbbfr c j (by omega) (by omega)).trans rfl))⟩
          · first
            | exact Or.inr ⟨Int.natCast_nonneg _, (by show ((tNq c n p : Nat) : Int) ≤ 9000; omega), tNf_1 w42.1⟩
            | exact Or.inr ⟨Int.natCast_nonneg _, (by show ((tNr c n p : Nat) : Int) ≤ 9000; omega), tNf_2 w42.1 t81 w106.1⟩
            | exact Or.inl ⟨rfl, w42.1, fun z => w106.1 z.2, by rw [f125bbb]; omega, by rw [tNe_y t81]; exact g103⟩
            | exact Or.inl ⟨rfl, w42.1, fun z => t81 z.1, by rw [t81b]; omega, by rw [tNe_n t81]; exact g39⟩
            | exact Or.inl ⟨rfl, w42.1, fun z => t47b z.1, by rw [t47bb]; omega, by rw [tNe_n t47b]; exact g39⟩
        · have t47 : tLen f = 1 := (if_pos (by omega))
          refine And.intro (zP_1 hS (by omega) (by omega)) (zrdL (v := 1000000) t16 ?_)
          refine And.intro ⟨(by omega), (zRb rfl)⟩ ⟨(fun h64 => False.elim (by omega)), fun h64 => ?_⟩
          refine And.intro (zA_61 hS) (zrd (v := (-1)) w42.2 ?_)
          refine And.intro ⟨(zRb rfl), (zRb rfl)⟩ (zbf rfl ?_)
          refine And.intro (zA_61 hS) ⟨_, sn_K_peek.up (by decide), ?_⟩
          refine ⟨c, n, (tNq c n p), rfl, hS, hR, htx, (by first | exact (zRD_fr hX (fun c j h => ((p39bbbfr c j (by omega) (by omega)).trans rfl))) | (clear hQ; grind [xu])), (by first | exact hc | (clear hQ; grind [xu])), g39, (by omega), ?_⟩
          intro v76o p76hv p76bhv2
          refine And.intro ⟨(by omega), (zRb rfl)⟩ ⟨fun h81 => ?_, fun h81 => ?_⟩
          · have t81 : ¬ tFr c (tNq c n p) (tLen f) := (fun w => by have w2 := w.2; omega)
            have t81b : tNu c n p (tLen f) = 1000000 * tVl c (tNs c p) (tNq c n p - tNs c p) := (tNu_n t47 t81)
            refine ⟨(1, 0, 0), [some (zvr (61)), some (zvi (a_)), some (zvi (f)), some (zvi (w_)), some (zvi (p)), some (zvi ((0 : Int))), some (zvl ((v39o * 1000000))), none, none, none, none], ⟨rfl, (congrArg (fun z => some (zvi z)) (by omega)), rfl, (congrArg (fun z => some (zvi z)) (by omega)), rfl, rfl, rfl, rfl⟩, 0, (v39o * 1000000), (-1), (tDe c n (tNs c p) 4), rfl, rfl, rfl, rfl, rfl, rfl, (by first | exact Or.inl ⟨rfl, by omega⟩ | exact Or.inr ⟨rfl, by omega⟩), (by omega), w42.2, p39hpl, (by omega), ?_, (by omega), (by omega), (fun c j h0 h1 => ((p39bbbfr c j (by omega) (by omega)).trans rfl))⟩
            · first
              | exact Or.inr ⟨Int.natCast_nonneg _, (by show ((tNq c n p : Nat) : Int) ≤ 9000; omega), tNf_1 w42.1⟩
              | exact Or.inr ⟨Int.natCast_nonneg _, (by show ((tNr c n p : Nat) : Int) ≤ 9000; omega), tNf_2 w42.1 t81 w106.1⟩
              | exact Or.inl ⟨rfl, w42.1, fun z => w106.1 z.2, by rw [f125bbb]; omega, by rw [tNe_y t81]; exact g103⟩
              | exact Or.inl ⟨rfl, w42.1, fun z => t81 z.1, by rw [t81b]; omega, by rw [tNe_n t81]; exact g39⟩
              | exact Or.inl ⟨rfl, w42.1, fun z => t47b z.1, by rw [t47bb]; omega, by rw [tNe_n t47b]; exact g39⟩
          · have t81 : tFr c (tNq c n p) (tLen f) := ⟨t47, by omega⟩
            refine And.intro (zA_61 hS) (zrd (v := (tDe c n (tNs c p) 4)) p39hpl ?_)
            refine And.intro (zA_61 hS) ⟨_, (zWi (by omega)), ?_⟩
            refine And.intro (zA_61 hS) (zrd (v := ((tDe c n (tNs c p) 4) + 1)) rfl ?_)
            refine And.intro (zA_61 hS) ⟨_, sn_K_dig.up (by decide), ?_⟩
            refine ⟨c, n, (tNq c n p + 1), (6 : Int), 6, rfl, hS, hR, htx, (by first | exact (zRD_fr hX (fun c j h => (zxcj (by omega) ((p39bbbfr c j (by omega) (by omega)).trans rfl)))) | (clear hQ; grind [xu])), (by first | exact hc | (clear hQ; grind [xu])), (Eq.trans (b := (((tDe c n (tNs c p) 4) + 1) : Int)) rfl (by omega)), (by omega), (by omega), (zxs (by decide) w42.2), ?_⟩
            intro v103o I103o p103hpl p103bhv p103bbhf p103bbbfr
            have g103 : I103o 61 2 = tNr c n p := p103hpl
            have g103b : v103o = tVl c (tNq c n p + 1) (tNr c n p - (tNq c n p + 1)) := p103bhv
            have g103bb : tNq c n p + 1 ≤ tNr c n p ∧ tNr c n p ≤ tNq c n p + 7 := (by have w := tDe_sp (p := tNq c n p + 1) (m := 6) hc; exact ⟨w.1, w.2.1⟩)
            have g103bbb : 0 ≤ v103o ∧ v103o ≤ 999999 := (by have w := tDe_sp (p := tNq c n p + 1) (m := 6) hc; have w2 := tVl_b (c := c) (p := tNq c n p + 1) (n := (tNr c n p - (tNq c n p + 1))) (fun i h1 h2 => w.2.2.1 i h1 (by show i < tNr c n p; omega)) (Nat.le_refl _); omega)
            rcases p103bbhf with w106 | w106
            · refine And.intro (zA_61 hS) (zrd (v := (tDe c n (tNq c n p + 1) 6)) p103hpl ?_)
              refine And.intro (zP_1 hS (by omega) (by omega)) (fun v125 e125 r125 => ?_)
              have f125 : v125 = tTn (6 - (tNr c n p - (tNq c n p + 1))) := (e125.trans ((congrArg (L 1) (by omega)).trans (zSt_10 hT (i := 6 - (tNr c n p - (tNq c n p + 1))) (by omega))))
              have f125b : 0 ≤ v103o * v125 ∧ v103o * v125 ≤ 999999 := (by rw [f125, Int.mul_comm, g103b]; have w := tDe_sp (p := tNq c n p + 1) (m := 6) hc; have w2 := tVl_b (c := c) (p := tNq c n p + 1) (n := (tNr c n p - (tNq c n p + 1))) (fun i h1 h2 => w.2.2.1 i h1 (by show i < tNr c n p; omega)) (Nat.le_refl _); exact tTn_m (by omega) w2.1 w2.2)
              have f125bb : tTn (6 - (tNr c n p - (tNq c n p + 1))) * tVl c (tNq c n p + 1) (tNr c n p - (tNq c n p + 1)) = v103o * v125 := (by rw [f125, g103b, Int.mul_comm])
              have f125bbb : tNu c n p (tLen f) = 1000000 * tVl c (tNs c p) (tNq c n p - tNs c p) + v103o * v125 := (by rw [tNu_y t47 t81, f125bb])
              refine ⟨(1, 0, 0), [some (zvr (61)), some (zvi (a_)), some (zvi (f)), some (zvi (w_)), some (zvi (p)), some (zvi ((0 : Int))), some (zvl (((v39o * 1000000) + (v103o * v125)))), none, none, none, none], ⟨rfl, (congrArg (fun z => some (zvi z)) (by omega)), rfl, (congrArg (fun z => some (zvi z)) (by omega)), rfl, rfl, rfl, rfl⟩, 0, ((v39o * 1000000) + (v103o * v125)), (-1), (tDe c n (tNq c n p + 1) 6), rfl, rfl, rfl, rfl, rfl, rfl, (by first | exact Or.inl ⟨rfl, by omega⟩ | exact Or.inr ⟨rfl, by omega⟩), (by omega), w106.2, p103hpl, (by omega), ?_, (by omega), (by omega), (fun c j h0 h1 => ((p103bbbfr c j (by omega) (by omega)).trans (zxcj h0 ((p39bbbfr c j (by omega) (by omega)).trans rfl))))⟩
              · first
                | exact Or.inr ⟨Int.natCast_nonneg _, (by show ((tNq c n p : Nat) : Int) ≤ 9000; omega), tNf_1 w42.1⟩
                | exact Or.inr ⟨Int.natCast_nonneg _, (by show ((tNr c n p : Nat) : Int) ≤ 9000; omega), tNf_2 w42.1 t81 w106.1⟩
                | exact Or.inl ⟨rfl, w42.1, fun z => w106.1 z.2, by rw [f125bbb]; omega, by rw [tNe_y t81]; exact g103⟩
                | exact Or.inl ⟨rfl, w42.1, fun z => t81 z.1, by rw [t81b]; omega, by rw [tNe_n t81]; exact g39⟩
                | exact Or.inl ⟨rfl, w42.1, fun z => t47b z.1, by rw [t47bb]; omega, by rw [tNe_n t47b]; exact g39⟩
            · refine And.intro (zA_61 hS) (zrd (v := (tDe c n (tNq c n p + 1) 6)) p103hpl ?_)
              refine And.intro (zP_1 hS (by omega) (by omega)) (fun v125 e125 r125 => ?_)
              have f125 : v125 = tTn (6 - (tNr c n p - (tNq c n p + 1))) := (e125.trans ((congrArg (L 1) (by omega)).trans (zSt_10 hT (i := 6 - (tNr c n p - (tNq c n p + 1))) (by omega))))
              have f125b : 0 ≤ v103o * v125 ∧ v103o * v125 ≤ 999999 := (by rw [f125, Int.mul_comm, g103b]; have w := tDe_sp (p := tNq c n p + 1) (m := 6) hc; have w2 := tVl_b (c := c) (p := tNq c n p + 1) (n := (tNr c n p - (tNq c n p + 1))) (fun i h1 h2 => w.2.2.1 i h1 (by show i < tNr c n p; omega)) (Nat.le_refl _); exact tTn_m (by omega) w2.1 w2.2)
              have f125bb : tTn (6 - (tNr c n p - (tNq c n p + 1))) * tVl c (tNq c n p + 1) (tNr c n p - (tNq c n p + 1)) = v103o * v125 := (by rw [f125, g103b, Int.mul_comm])
              have f125bbb : tNu c n p (tLen f) = 1000000 * tVl c (tNs c p) (tNq c n p - tNs c p) + v103o * v125 := (by rw [tNu_y t47 t81, f125bb])
              refine ⟨(1, 0, 0), [some (zvr (61)), some (zvi (a_)), some (zvi (f)), some (zvi (w_)), some (zvi (p)), some (zvi ((0 : Int))), some (zvl (((v39o * 1000000) + (v103o * v125)))), none, none, none, none], ⟨rfl, (congrArg (fun z => some (zvi z)) (by omega)), rfl, (congrArg (fun z => some (zvi z)) (by omega)), rfl, rfl, rfl, rfl⟩, 0, ((v39o * 1000000) + (v103o * v125)), (tDe c n (tNq c n p + 1) 6), (tDe c n (tNq c n p + 1) 6), rfl, rfl, rfl, rfl, rfl, rfl, (by first | exact Or.inl ⟨rfl, by omega⟩ | exact Or.inr ⟨rfl, by omega⟩), (by omega), w106.2, p103hpl, (by omega), ?_, (by omega), (by omega), (fun c j h0 h1 => ((p103bbbfr c j (by omega) (by omega)).trans (zxcj h0 ((p39bbbfr c j (by omega) (by omega)).trans rfl))))⟩
              · first
                | exact Or.inr ⟨Int.natCast_nonneg _, (by show ((tNq c n p : Nat) : Int) ≤ 9000; omega), tNf_1 w42.1⟩
                | exact Or.inr ⟨Int.natCast_nonneg _, (by show ((tNr c n p : Nat) : Int) ≤ 9000; omega), tNf_2 w42.1 t81 w106.1⟩
                | exact Or.inl ⟨rfl, w42.1, fun z => w106.1 z.2, by rw [f125bbb]; omega, by rw [tNe_y t81]; exact g103⟩
                | exact Or.inl ⟨rfl, w42.1, fun z => t81 z.1, by rw [t81b]; omega, by rw [tNe_n t81]; exact g39⟩
                | exact Or.inl ⟨rfl, w42.1, fun z => t47b z.1, by rw [t47bb]; omega, by rw [tNe_n t47b]; exact g39⟩
      · refine And.intro ⟨(by omega), (zRb rfl)⟩ ⟨fun h47 => ?_, fun h47 => ?_⟩
        · have t47 : tLen f = 0 := (if_neg (by omega))
          have t47b : ¬ tFr c (tNq c n p) (tLen f) := (fun w => by have w1 := w.1; have e : tLen f = 0 := if_neg (by omega); omega)
          have t47bb : tNu c n p (tLen f) = tVl c (tNs c p) (tNq c n p - tNs c p) := (tNu_0 (by rw [t47]; decide))
          refine And.intro ⟨(by omega), (zRb rfl)⟩ ⟨fun h64 => ?_, (fun h64 => False.elim (by omega))⟩
          refine ⟨(1, 0, 0), [some (zvr (61)), some (zvi (a_)), some (zvi (f)), some (zvi (w_)), some (zvi (p)), some (zvi ((0 : Int))), some (zvl (v39o)), none, none, none, none], ⟨rfl, (congrArg (fun z => some (zvi z)) (by omega)), rfl, (congrArg (fun z => some (zvi z)) (by omega)), rfl, rfl, rfl, rfl⟩, 0, v39o, (tDe c n (tNs c p) 4), (tDe c n (tNs c p) 4), rfl, rfl, rfl, rfl, rfl, rfl, (by first | exact Or.inl ⟨rfl, by omega⟩ | exact Or.inr ⟨rfl, by omega⟩), (by omega), w42.2, p39hpl, (by omega), ?_, (by omega), (by omega), (fun c j h0 h1 => ((p39bbbfr c j (by omega) (by omega)).trans rfl))⟩
          · first
            | exact Or.inr ⟨Int.natCast_nonneg _, (by show ((tNq c n p : Nat) : Int) ≤ 9000; omega), tNf_1 w42.1⟩
            | exact Or.inr ⟨Int.natCast_nonneg _, (by show ((tNr c n p : Nat) : Int) ≤ 9000; omega), tNf_2 w42.1 t81 w106.1⟩
            | exact Or.inl ⟨rfl, w42.1, fun z => w106.1 z.2, by rw [f125bbb]; omega, by rw [tNe_y t81]; exact g103⟩
            | exact Or.inl ⟨rfl, w42.1, fun z => t81 z.1, by rw [t81b]; omega, by rw [tNe_n t81]; exact g39⟩
            | exact Or.inl ⟨rfl, w42.1, fun z => t47b z.1, by rw [t47bb]; omega, by rw [tNe_n t47b]; exact g39⟩
        · have t47 : tLen f = 1 := (if_pos (by omega))
          refine And.intro (zP_1 hS (by omega) (by omega)) (zrdL (v := 1000000) t16 ?_)
          refine And.intro ⟨(by omega), (zRb rfl)⟩ ⟨(fun h64 => False.elim (by omega)), fun h64 => ?_⟩
          refine And.intro (zA_61 hS) (zrd (v := (tDe c n (tNs c p) 4)) w42.2 ?_)
          refine And.intro ⟨(by omega), (zRb rfl)⟩ ⟨fun h72 => ?_, (fun h72 => False.elim (by omega))⟩
          refine ⟨(1, 0, 0), [some (zvr (61)), some (zvi (a_)), some (zvi (f)), some (zvi (w_)), some (zvi (p)), some (zvi ((0 : Int))), some (zvl ((v39o * 1000000))), none, none, none, none], ⟨rfl, (congrArg (fun z => some (zvi z)) (by omega)), rfl, (congrArg (fun z => some (zvi z)) (by omega)), rfl, rfl, rfl, rfl⟩, 0, (v39o * 1000000), (tDe c n (tNs c p) 4), (tDe c n (tNs c p) 4), rfl, rfl, rfl, rfl, rfl, rfl, (by first | exact Or.inl ⟨rfl, by omega⟩ | exact Or.inr ⟨rfl, by omega⟩), (by omega), w42.2, p39hpl, (by omega), ?_, (by omega), (by omega), (fun c j h0 h1 => ((p39bbbfr c j (by omega) (by omega)).trans rfl))⟩
          · first
            | exact Or.inr ⟨Int.natCast_nonneg _, (by show ((tNq c n p : Nat) : Int) ≤ 9000; omega), tNf_1 w42.1⟩
            | exact Or.inr ⟨Int.natCast_nonneg _, (by show ((tNr c n p : Nat) : Int) ≤ 9000; omega), tNf_2 w42.1 t81 w106.1⟩
            | exact Or.inl ⟨rfl, w42.1, fun z => w106.1 z.2, by rw [f125bbb]; omega, by rw [tNe_y t81]; exact g103⟩
            | exact Or.inl ⟨rfl, w42.1, fun z => t81 z.1, by rw [t81b]; omega, by rw [tNe_n t81]; exact g39⟩
            | exact Or.inl ⟨rfl, w42.1, fun z => t47b z.1, by rw [t47bb]; omega, by rw [tNe_n t47b]; exact g39⟩
    · have t12 : tNs c p = p + 1 := (tNs_y (by omega))
      refine And.intro (zRb rfl) (zbf rfl ?_)
      refine And.intro (zA_61 hS) (zrd (v := p) hp ?_)
      refine And.intro (zA_61 hS) ⟨_, (zWi (by omega)), ?_⟩
      refine And.intro (zA_61 hS) ⟨_, sn_K_dig.up (by decide), ?_⟩
      refine ⟨c, n, (tNs c p), (4 : Int), 4, rfl, hS, hR, htx, (by first | exact (zRD_fr hX (fun c j h => (zxcj (by omega) rfl))) | (clear hQ; grind [xu])), (by first | exact hc | (clear hQ; grind [xu])), (Eq.trans (b := ((p + 1) : Int)) rfl (by omega)), (by omega), (by omega), (Eq.trans (b := ((-1) : Int)) hf0 (by omega)), ?_⟩
      intro v39o I39o p39hpl p39bhv p39bbhf p39bbbfr
      have g39 : I39o 61 2 = tNq c n p := p39hpl
      have g39b : v39o = tVl c (tNs c p) (tNq c n p - tNs c p) := p39bhv
      have g39bb : tNs c p ≤ tNq c n p ∧ tNq c n p ≤ tNs c p + 4 := (by have w := tDe_sp (p := tNs c p) (m := 4) hc; exact ⟨w.1, w.2.1⟩)
      have g39bbb : 0 ≤ v39o ∧ v39o ≤ 9999 := (by have w := tDe_sp (p := tNs c p) (m := 4) hc; have w2 := tVl_b (c := c) (p := tNs c p) (n := tNq c n p - tNs c p) (fun i h1 h2 => w.2.2.1 i h1 (by show i < tNq c n p; omega)) (Nat.le_refl _); omega)
      rcases p39bbhf with w42 | w42
      · refine And.intro ⟨(by omega), (zRb rfl)⟩ ⟨fun h47 => ?_, fun h47 => ?_⟩
        · have t47 : tLen f = 0 := (if_neg (by omega))
          have t47b : ¬ tFr c (tNq c n p) (tLen f) := (fun w => by have w1 := w.1; have e : tLen f = 0 := if_neg (by omega); omega)
          have t47bb : tNu c n p (tLen f) = tVl c (tNs c p) (tNq c n p - tNs c p) := (tNu_0 (by rw [t47]; decide))
          refine And.intro ⟨(by omega), (zRb rfl)⟩ ⟨fun h64 => ?_, (fun h64 => False.elim (by omega))⟩
          refine ⟨(1, 0, 0), [some (zvr (61)), some (zvi (a_)), some (zvi (f)), some (zvi (w_)), some (zvi (p)), some (zvi ((1 : Int))), some (zvl (v39o)), none, none, none, none], ⟨rfl, (congrArg (fun z => some (zvi z)) (by omega)), rfl, (congrArg (fun z => some (zvi z)) (by omega)), rfl, rfl, rfl, rfl⟩, 1, v39o, (-1), (tDe c n (tNs c p) 4), rfl, rfl, rfl, rfl, rfl, rfl, (by first | exact Or.inl ⟨rfl, by omega⟩ | exact Or.inr ⟨rfl, by omega⟩), (by omega), w42.2, p39hpl, (by omega), ?_, (by omega), (by omega), (fun c j h0 h1 => ((p39bbbfr c j (by omega) (by omega)).trans (zxcj h0 rfl)))⟩
          · first
            | exact Or.inr ⟨Int.natCast_nonneg _, (by show ((tNq c n p : Nat) : Int) ≤ 9000; omega), tNf_1 w42.1⟩
            | exact Or.inr ⟨Int.natCast_nonneg _, (by show ((tNr c n p : Nat) : Int) ≤ 9000; omega), tNf_2 w42.1 t81 w106.1⟩
            | exact Or.inl ⟨rfl, w42.1, fun z => w106.1 z.2, by rw [f125bbb]; omega, by rw [tNe_y t81]; exact g103⟩
            | exact Or.inl ⟨rfl, w42.1, fun z => t81 z.1, by rw [t81b]; omega, by rw [tNe_n t81]; exact g39⟩
            | exact Or.inl ⟨rfl, w42.1, fun z => t47b z.1, by rw [t47bb]; omega, by rw [tNe_n t47b]; exact g39⟩
        · have t47 : tLen f = 1 := (if_pos (by omega))
          refine And.intro (zP_1 hS (by omega) (by omega)) (zrdL (v := 1000000) t16 ?_)
          refine And.intro ⟨(by omega), (zRb rfl)⟩ ⟨(fun h64 => False.elim (by omega)), fun h64 => ?_⟩
          refine And.intro (zA_61 hS) (zrd (v := (-1)) w42.2 ?_)
          refine And.intro ⟨(zRb rfl), (zRb rfl)⟩ (zbf rfl ?_)
          refine And.intro (zA_61 hS) ⟨_, sn_K_peek.up (by decide), ?_⟩
          refine ⟨c, n, (tNq c n p), rfl, hS, hR, htx, (by first | exact (zRD_fr hX (fun c j h => ((p39bbbfr c j (by omega) (by omega)).trans (zxcj (by omega) rfl)))) | (clear hQ; grind [xu])), (by first | exact hc | (clear hQ; grind [xu])), g39, (by omega), ?_⟩
          intro v76o p76hv p76bhv2
          refine And.intro ⟨(by omega), (zRb rfl)⟩ ⟨fun h81 => ?_, fun h81 => ?_⟩
          · have t81 : ¬ tFr c (tNq c n p) (tLen f) := (fun w => by have w2 := w.2; omega)
            have t81b : tNu c n p (tLen f) = 1000000 * tVl c (tNs c p) (tNq c n p - tNs c p) := (tNu_n t47 t81)
            refine ⟨(1, 0, 0), [some (zvr (61)), some (zvi (a_)), some (zvi (f)), some (zvi (w_)), some (zvi (p)), some (zvi ((1 : Int))), some (zvl ((v39o * 1000000))), none, none, none, none], ⟨rfl, (congrArg (fun z => some (zvi z)) (by omega)), rfl, (congrArg (fun z => some (zvi z)) (by omega)), rfl, rfl, rfl, rfl⟩, 1, (v39o * 1000000), (-1), (tDe c n (tNs c p) 4), rfl, rfl, rfl, rfl, rfl, rfl, (by first | exact Or.inl ⟨rfl, by omega⟩ | exact Or.inr ⟨rfl, by omega⟩), (by omega), w42.2, p39hpl, (by omega), ?_, (by omega), (by omega), (fun c j h0 h1 => ((p39bbbfr c j (by omega) (by omega)).trans (zxcj h0 rfl)))⟩
            · first
              | exact Or.inr ⟨Int.natCast_nonneg _, (by show ((tNq c n p : Nat) : Int) ≤ 9000; omega), tNf_1 w42.1⟩
              | exact Or.inr ⟨Int.natCast_nonneg _, (by show ((tNr c n p : Nat) : Int) ≤ 9000; omega), tNf_2 w42.1 t81 w106.1⟩
              | exact Or.inl ⟨rfl, w42.1, fun z => w106.1 z.2, by rw [f125bbb]; omega, by rw [tNe_y t81]; exact g103⟩
              | exact Or.inl ⟨rfl, w42.1, fun z => t81 z.1, by rw [t81b]; omega, by rw [tNe_n t81]; exact g39⟩
              | exact Or.inl ⟨rfl, w42.1, fun z => t47b z.1, by rw [t47bb]; omega, by rw [tNe_n t47b]; exact g39⟩
          · have t81 : tFr c (tNq c n p) (tLen f) := ⟨t47, by omega⟩
            refine And.intro (zA_61 hS) (zrd (v := (tDe c n (tNs c p) 4)) p39hpl ?_)
            refine And.intro (zA_61 hS) ⟨_, (zWi (by omega)), ?_⟩
            refine And.intro (zA_61 hS) (zrd (v := ((tDe c n (tNs c p) 4) + 1)) rfl ?_)
            refine And.intro (zA_61 hS) ⟨_, sn_K_dig.up (by decide), ?_⟩
            refine ⟨c, n, (tNq c n p + 1), (6 : Int), 6, rfl, hS, hR, htx, (by first | exact (zRD_fr hX (fun c j h => (zxcj (by omega) ((p39bbbfr c j (by omega) (by omega)).trans (zxcj (by omega) rfl))))) | (clear hQ; grind [xu])), (by first | exact hc | (clear hQ; grind [xu])), (Eq.trans (b := (((tDe c n (tNs c p) 4) + 1) : Int)) rfl (by omega)), (by omega), (by omega), (zxs (by decide) w42.2), ?_⟩
            intro v103o I103o p103hpl p103bhv p103bbhf p103bbbfr
            have g103 : I103o 61 2 = tNr c n p := p103hpl
            have g103b : v103o = tVl c (tNq c n p + 1) (tNr c n p - (tNq c n p + 1)) := p103bhv
            have g103bb : tNq c n p + 1 ≤ tNr c n p ∧ tNr c n p ≤ tNq c n p + 7 := (by have w := tDe_sp (p := tNq c n p + 1) (m := 6) hc; exact ⟨w.1, w.2.1⟩)
            have g103bbb : 0 ≤ v103o ∧ v103o ≤ 999999 := (by have w := tDe_sp (p := tNq c n p + 1) (m := 6) hc; have w2 := tVl_b (c := c) (p := tNq c n p + 1) (n := (tNr c n p - (tNq c n p + 1))) (fun i h1 h2 => w.2.2.1 i h1 (by show i < tNr c n p; omega)) (Nat.le_refl _); omega)
            rcases p103bbhf with w106 | w106
            · refine And.intro (zA_61 hS) (zrd (v := (tDe c n (tNq c n p + 1) 6)) p103hpl ?_)
              refine And.intro (zP_1 hS (by omega) (by omega)) (fun v125 e125 r125 => ?_)
              have f125 : v125 = tTn (6 - (tNr c n p - (tNq c n p + 1))) := (e125.trans ((congrArg (L 1) (by omega)).trans (zSt_10 hT (i := 6 - (tNr c n p - (tNq c n p + 1))) (by omega))))
              have f125b : 0 ≤ v103o * v125 ∧ v103o * v125 ≤ 999999 := (by rw [f125, Int.mul_comm, g103b]; have w := tDe_sp (p := tNq c n p + 1) (m := 6) hc; have w2 := tVl_b (c := c) (p := tNq c n p + 1) (n := (tNr c n p - (tNq c n p + 1))) (fun i h1 h2 => w.2.2.1 i h1 (by show i < tNr c n p; omega)) (Nat.le_refl _); exact tTn_m (by omega) w2.1 w2.2)
              have f125bb : tTn (6 - (tNr c n p - (tNq c n p + 1))) * tVl c (tNq c n p + 1) (tNr c n p - (tNq c n p + 1)) = v103o * v125 := (by rw [f125, g103b, Int.mul_comm])
              have f125bbb : tNu c n p (tLen f) = 1000000 * tVl c (tNs c p) (tNq c n p - tNs c p) + v103o * v125 := (by rw [tNu_y t47 t81, f125bb])
              refine ⟨(1, 0, 0), [some (zvr (61)), some (zvi (a_)), some (zvi (f)), some (zvi (w_)), some (zvi (p)), some (zvi ((1 : Int))), some (zvl (((v39o * 1000000) + (v103o * v125)))), none, none, none, none], ⟨rfl, (congrArg (fun z => some (zvi z)) (by omega)), rfl, (congrArg (fun z => some (zvi z)) (by omega)), rfl, rfl, rfl, rfl⟩, 1, ((v39o * 1000000) + (v103o * v125)), (-1), (tDe c n (tNq c n p + 1) 6), rfl, rfl, rfl, rfl, rfl, rfl, (by first | exact Or.inl ⟨rfl, by omega⟩ | exact Or.inr ⟨rfl, by omega⟩), (by omega), w106.2, p103hpl, (by omega), ?_, (by omega), (by omega), (fun c j h0 h1 => ((p103bbbfr c j (by omega) (by omega)).trans (zxcj h0 ((p39bbbfr c j (by omega) (by omega)).trans (zxcj h0 rfl)))))⟩
              · first
                | exact Or.inr ⟨Int.natCast_nonneg _, (by show ((tNq c n p : Nat) : Int) ≤ 9000; omega), tNf_1 w42.1⟩
                | exact Or.inr ⟨Int.natCast_nonneg _, (by show ((tNr c n p : Nat) : Int) ≤ 9000; omega), tNf_2 w42.1 t81 w106.1⟩
                | exact Or.inl ⟨rfl, w42.1, fun z => w106.1 z.2, by rw [f125bbb]; omega, by rw [tNe_y t81]; exact g103⟩
                | exact Or.inl ⟨rfl, w42.1, fun z => t81 z.1, by rw [t81b]; omega, by rw [tNe_n t81]; exact g39⟩
                | exact Or.inl ⟨rfl, w42.1, fun z => t47b z.1, by rw [t47bb]; omega, by rw [tNe_n t47b]; exact g39⟩
            · refine And.intro (zA_61 hS) (zrd (v := (tDe c n (tNq c n p + 1) 6)) p103hpl ?_)
              refine And.intro (zP_1 hS (by omega) (by omega)) (fun v125 e125 r125 => ?_)
              have f125 : v125 = tTn (6 - (tNr c n p - (tNq c n p + 1))) := (e125.trans ((congrArg (L 1) (by omega)).trans (zSt_10 hT (i := 6 - (tNr c n p - (tNq c n p + 1))) (by omega))))
              have f125b : 0 ≤ v103o * v125 ∧ v103o * v125 ≤ 999999 := (by rw [f125, Int.mul_comm, g103b]; have w := tDe_sp (p := tNq c n p + 1) (m := 6) hc; have w2 := tVl_b (c := c) (p := tNq c n p + 1) (n := (tNr c n p - (tNq c n p + 1))) (fun i h1 h2 => w.2.2.1 i h1 (by show i < tNr c n p; omega)) (Nat.le_refl _); exact tTn_m (by omega) w2.1 w2.2)
              have f125bb : tTn (6 - (tNr c n p - (tNq c n p + 1))) * tVl c (tNq c n p + 1) (tNr c n p - (tNq c n p + 1)) = v103o * v125 := (by rw [f125, g103b, Int.mul_comm])
              have f125bbb : tNu c n p (tLen f) = 1000000 * tVl c (tNs c p) (tNq c n p - tNs c p) + v103o * v125 := (by rw [tNu_y t47 t81, f125bb])
              refine ⟨(1, 0, 0), [some (zvr (61)), some (zvi (a_)), some (zvi (f)), some (zvi (w_)), some (zvi (p)), some (zvi ((1 : Int))), some (zvl (((v39o * 1000000) + (v103o * v125)))), none, none, none, none], ⟨rfl, (congrArg (fun z => some (zvi z)) (by omega)), rfl, (congrArg (fun z => some (zvi z)) (by omega)), rfl, rfl, rfl, rfl⟩, 1, ((v39o * 1000000) + (v103o * v125)), (tDe c n (tNq c n p + 1) 6), (tDe c n (tNq c n p + 1) 6), rfl, rfl, rfl, rfl, rfl, rfl, (by first | exact Or.inl ⟨rfl, by omega⟩ | exact Or.inr ⟨rfl, by omega⟩), (by omega), w106.2, p103hpl, (by omega), ?_, (by omega), (by omega), (fun c j h0 h1 => ((p103bbbfr c j (by omega) (by omega)).trans (zxcj h0 ((p39bbbfr c j (by omega) (by omega)).trans (zxcj h0 rfl)))))⟩
              · first
                | exact Or.inr ⟨Int.natCast_nonneg _, (by show ((tNq c n p : Nat) : Int) ≤ 9000; omega), tNf_1 w42.1⟩
                | exact Or.inr ⟨Int.natCast_nonneg _, (by show ((tNr c n p : Nat) : Int) ≤ 9000; omega), tNf_2 w42.1 t81 w106.1⟩
                | exact Or.inl ⟨rfl, w42.1, fun z => w106.1 z.2, by rw [f125bbb]; omega, by rw [tNe_y t81]; exact g103⟩
                | exact Or.inl ⟨rfl, w42.1, fun z => t81 z.1, by rw [t81b]; omega, by rw [tNe_n t81]; exact g39⟩
                | exact Or.inl ⟨rfl, w42.1, fun z => t47b z.1, by rw [t47bb]; omega, by rw [tNe_n t47b]; exact g39⟩
      · refine And.intro ⟨(by omega), (zRb rfl)⟩ ⟨fun h47 => ?_, fun h47 => ?_⟩
        · have t47 : tLen f = 0 := (if_neg (by omega))
          have t47b : ¬ tFr c (tNq c n p) (tLen f) := (fun w => by have w1 := w.1; have e : tLen f = 0 := if_neg (by omega); omega)
          have t47bb : tNu c n p (tLen f) = tVl c (tNs c p) (tNq c n p - tNs c p) := (tNu_0 (by rw [t47]; decide))
          refine And.intro ⟨(by omega), (zRb rfl)⟩ ⟨fun h64 => ?_, (fun h64 => False.elim (by omega))⟩
          refine ⟨(1, 0, 0), [some (zvr (61)), some (zvi (a_)), some (zvi (f)), some (zvi (w_)), some (zvi (p)), some (zvi ((1 : Int))), some (zvl (v39o)), none, none, none, none], ⟨rfl, (congrArg (fun z => some (zvi z)) (by omega)), rfl, (congrArg (fun z => some (zvi z)) (by omega)), rfl, rfl, rfl, rfl⟩, 1, v39o, (tDe c n (tNs c p) 4), (tDe c n (tNs c p) 4), rfl, rfl, rfl, rfl, rfl, rfl, (by first | exact Or.inl ⟨rfl, by omega⟩ | exact Or.inr ⟨rfl, by omega⟩), (by omega), w42.2, p39hpl, (by omega), ?_, (by omega), (by omega), (fun c j h0 h1 => ((p39bbbfr c j (by omega) (by omega)).trans (zxcj h0 rfl)))⟩
          · first
            | exact Or.inr ⟨Int.natCast_nonneg _, (by show ((tNq c n p : Nat) : Int) ≤ 9000; omega), tNf_1 w42.1⟩
            | exact Or.inr ⟨Int.natCast_nonneg _, (by show ((tNr c n p : Nat) : Int) ≤ 9000; omega), tNf_2 w42.1 t81 w106.1⟩
            | exact Or.inl ⟨rfl, w42.1, fun z => w106.1 z.2, by rw [f125bbb]; omega, by rw [tNe_y t81]; exact g103⟩
            | exact Or.inl ⟨rfl, w42.1, fun z => t81 z.1, by rw [t81b]; omega, by rw [tNe_n t81]; exact g39⟩
            | exact Or.inl ⟨rfl, w42.1, fun z => t47b z.1, by rw [t47bb]; omega, by rw [tNe_n t47b]; exact g39⟩
        · have t47 : tLen f = 1 := (if_pos (by omega))
          refine And.intro (zP_1 hS (by omega) (by omega)) (zrdL (v := 1000000) t16 ?_)
          refine And.intro ⟨(by omega), (zRb rfl)⟩ ⟨(fun h64 => False.elim (by omega)), fun h64 => ?_⟩
          refine And.intro (zA_61 hS) (zrd (v := (tDe c n (tNs c p) 4)) w42.2 ?_)
          refine And.intro ⟨(by omega), (zRb rfl)⟩ ⟨fun h72 => ?_, (fun h72 => False.elim (by omega))⟩
          refine ⟨(1, 0, 0), [some (zvr (61)), some (zvi (a_)), some (zvi (f)), some (zvi (w_)), some (zvi (p)), some (zvi ((1 : Int))), some (zvl ((v39o * 1000000))), none, none, none, none], ⟨rfl, (congrArg (fun z => some (zvi z)) (by omega)), rfl, (congrArg (fun z => some (zvi z)) (by omega)), rfl, rfl, rfl, rfl⟩, 1, (v39o * 1000000), (tDe c n (tNs c p) 4), (tDe c n (tNs c p) 4), rfl, rfl, rfl, rfl, rfl, rfl, (by first | exact Or.inl ⟨rfl, by omega⟩ | exact Or.inr ⟨rfl, by omega⟩), (by omega), w42.2, p39hpl, (by omega), ?_, (by omega), (by omega), (fun c j h0 h1 => ((p39bbbfr c j (by omega) (by omega)).trans (zxcj h0 rfl)))⟩
          · first
            | exact Or.inr ⟨Int.natCast_nonneg _, (by show ((tNq c n p : Nat) : Int) ≤ 9000; omega), tNf_1 w42.1⟩
            | exact Or.inr ⟨Int.natCast_nonneg _, (by show ((tNr c n p : Nat) : Int) ≤ 9000; omega), tNf_2 w42.1 t81 w106.1⟩
            | exact Or.inl ⟨rfl, w42.1, fun z => w106.1 z.2, by rw [f125bbb]; omega, by rw [tNe_y t81]; exact g103⟩
            | exact Or.inl ⟨rfl, w42.1, fun z => t81 z.1, by rw [t81b]; omega, by rw [tNe_n t81]; exact g39⟩
            | exact Or.inl ⟨rfl, w42.1, fun z => t47b z.1, by rw [t47bb]; omega, by rw [tNe_n t47b]; exact g39⟩
  · rintro nM lsM stM I1 L1 R1 S1 hz1 ⟨mi, x, fv, pl, rfl, rfl, rfl, rfl, rfl, rfl, hmi, hmb, hfv, hpl8, hpb8, hst, hx86, hxb, fr⟩
    refine And.intro (by omega) ⟨fun h132 => ?_, fun h132 => ?_⟩
    · refine And.intro (zA_61 hS) (zrd (v := fv) hfv ?_)
      refine And.intro ⟨(by omega), (zRb rfl)⟩ ⟨fun h150 => ?_, fun h150 => ?_⟩
      · have t150 : (1 : Int) ≤ 2 := (by decide)
        refine And.intro ⟨(by omega), (zRb rfl)⟩ ⟨fun h185 => ?_, fun h185 => ?_⟩
        · refine And.intro (zA_61 hS) (zrdR (v := some k) hob ?_)
          refine And.intro (zDX hD 0 rfl) ⟨_, sn_O_set.up (by decide), ?_⟩
          refine ⟨k, a9, (a_ : Int), a_, (w_ : Int), w_, (x : Int), rfl, hS, hR, hD, ((fr k 0 (by omega) (by omega)).trans ho0), (by omega), (by omega), (by omega), (by omega), ?_⟩
          intro L206o p206hv2 p206bfr
          refine hQ _ _ (pl : Int) ?_ ?_ (fun c j h0 h1 h2 => ((fr c j (by omega) (by omega)).trans rfl)) (fun c j h0 => ((p206bfr c j (by omega)).trans rfl)) hpl8 (by omega)
          · rcases hst with w | w
            · first
              | exact absurd w.1 h150
              | (have m_ := t160
                 rw [tNf_3 w.2.1 w.2.2.1 (by have wx := w.2.2.2.1; rcases hmi with u | u; (rw [tNv_y u.2]; omega); (rw [tNv_n u.2]; omega))]
                 exact zxe)
              | (have m_ := t170b
                 rw [tNf_4 w.2.1 w.2.2.1 (by have wx := w.2.2.2.1; rcases hmi with u | u; (rw [tNv_y u.2]; omega); (rw [tNv_n u.2]; omega))]
                 exact hfv.trans w.1)
              | (have m_ := t170
                 rw [tNf_3 w.2.1 w.2.2.1 (by have wx := w.2.2.2.1; rcases hmi with u | u; (rw [tNv_y u.2]; omega); (rw [tNv_n u.2]; omega))]
                 exact zxe)
            · first
              | (have m_ := t150
                 exact hfv.trans w.2.2.symm)
              | (exfalso; omega)
          · intro h9
            rcases hst with w | w
            · first
              | exact absurd w.1 h150
              | (have m_ := t160
                 rw [tNf_3 w.2.1 w.2.2.1 (by have wx := w.2.2.2.1; rcases hmi with u | u; (rw [tNv_y u.2]; omega); (rw [tNv_n u.2]; omega))] at h9
                 omega)
              | (have m_ := t170b
                 refine ⟨w.2.2.2.2, fun hf6 => ?_, fun hf6 => ?_⟩
                 · first
                   | exact zxe.trans (by have wx := w.2.2.2.1; rcases hmi with u | u; (rw [tNv_y u.2]; omega); (rw [tNv_n u.2]; omega))
                   | exact absurd hf6 h185
                 · first
                   | exact ⟨p206hv2.trans (by have wx := w.2.2.2.1; rcases hmi with u | u; (rw [tNv_y u.2]; omega); (rw [tNv_n u.2]; omega)), ((fr 61 _ (by omega) (by omega)).trans rfl)⟩
                   | exact absurd h185 hf6)
              | (have m_ := t170
                 rw [tNf_3 w.2.1 w.2.2.1 (by have wx := w.2.2.2.1; rcases hmi with u | u; (rw [tNv_y u.2]; omega); (rw [tNv_n u.2]; omega))] at h9
                 omega)
            · exfalso
              omega
        · refine ⟨_, (zWi (by omega)), ?_⟩
          refine And.intro (zA_61 hS) ⟨_, (zWi (by omega)), ?_⟩
          refine hQ _ _ (pl : Int) ?_ ?_ (fun c j h0 h1 h2 => (zxcj h2 ((fr c j (by omega) (by omega)).trans rfl))) (fun c j h0 => rfl) hpl8 (by omega)
          · rcases hst with w | w
            · first
              | exact absurd w.1 h150
              | (have m_ := t160
                 rw [tNf_3 w.2.1 w.2.2.1 (by have wx := w.2.2.2.1; rcases hmi with u | u; (rw [tNv_y u.2]; omega); (rw [tNv_n u.2]; omega))]
                 exact zxe)
              | (have m_ := t170b
                 rw [tNf_4 w.2.1 w.2.2.1 (by have wx := w.2.2.2.1; rcases hmi with u | u; (rw [tNv_y u.2]; omega); (rw [tNv_n u.2]; omega))]
                 exact hfv.trans w.1)
              | (have m_ := t170
                 rw [tNf_3 w.2.1 w.2.2.1 (by have wx := w.2.2.2.1; rcases hmi with u | u; (rw [tNv_y u.2]; omega); (rw [tNv_n u.2]; omega))]
                 exact zxe)
            · first
              | (have m_ := t150
                 exact hfv.trans w.2.2.symm)
              | (exfalso; omega)
          · intro h9
            rcases hst with w | w
            · first
              | exact absurd w.1 h150
              | (have m_ := t160
                 rw [tNf_3 w.2.1 w.2.2.1 (by have wx := w.2.2.2.1; rcases hmi with u | u; (rw [tNv_y u.2]; omega); (rw [tNv_n u.2]; omega))] at h9
                 omega)
              | (have m_ := t170b
                 refine ⟨w.2.2.2.2, fun hf6 => ?_, fun hf6 => ?_⟩
                 · first
                   | exact zxe.trans (by have wx := w.2.2.2.1; rcases hmi with u | u; (rw [tNv_y u.2]; omega); (rw [tNv_n u.2]; omega))
                   | exact absurd hf6 h185
                 · first
                   | exact ⟨p206hv2.trans (by have wx := w.2.2.2.1; rcases hmi with u | u; (rw [tNv_y u.2]; omega); (rw [tNv_n u.2]; omega)), (zxcj (by omega) ((fr 61 _ (by omega) (by omega)).trans rfl))⟩
                   | exact absurd h185 hf6)
              | (have m_ := t170
                 rw [tNf_3 w.2.1 w.2.2.1 (by have wx := w.2.2.2.1; rcases hmi with u | u; (rw [tNv_y u.2]; omega); (rw [tNv_n u.2]; omega))] at h9
                 omega)
            · exfalso
              omega
      · refine ⟨_, sn_K_lst.up (by decide), ?_⟩
        refine ⟨(f : Int), rfl, (by omega), ?_⟩
        intro v156o p156hv p156bhv2
        refine ⟨_, _, ⟨zW6i (by omega), zW6i (by omega)⟩, fun z159 c159 => ?_⟩
        refine And.intro c159.2.2 ⟨fun h160 => ?_, fun h160 => ?_⟩
        · have t160 : (1 : Int) ≤ 2 := (by decide)
          refine And.intro (zA_61 hS) (Exists.intro _ (And.intro (zinl_ok (zT9_2 1)) (And.intro rfl ?_)))
          refine And.intro (zA_61 hS) (zrd (v := fv) hfv ?_)
          refine And.intro ⟨(by omega), (zRb rfl)⟩ ⟨(fun h5_176 => False.elim (by omega)), fun h5_176 => ?_⟩
          refine And.intro (zA_61 hS) ⟨_, (zWi (by omega)), ?_⟩
          refine hQ _ _ (pl : Int) ?_ ?_ (fun c j h0 h1 h2 => (zxcj h1 ((fr c j (by omega) (by omega)).trans rfl))) (fun c j h0 => rfl) hpl8 (by omega)
          · rcases hst with w | w
            · first
              | exact absurd w.1 h150
              | (have m_ := t160
                 rw [tNf_3 w.2.1 w.2.2.1 (by have wx := w.2.2.2.1; rcases hmi with u | u; (rw [tNv_y u.2]; omega); (rw [tNv_n u.2]; omega))]
                 exact zxe)
              | (have m_ := t170b
                 rw [tNf_4 w.2.1 w.2.2.1 (by have wx := w.2.2.2.1; rcases hmi with u | u; (rw [tNv_y u.2]; omega); (rw [tNv_n u.2]; omega))]
                 exact hfv.trans w.1)
              | (have m_ := t170
                 rw [tNf_3 w.2.1 w.2.2.1 (by have wx := w.2.2.2.1; rcases hmi with u | u; (rw [tNv_y u.2]; omega); (rw [tNv_n u.2]; omega))]
                 exact zxe)
            · first
              | (have m_ := t150
                 exact hfv.trans w.2.2.symm)
              | (exfalso; omega)
          · intro h9
            rcases hst with w | w
            · first
              | exact absurd w.1 h150
              | (have m_ := t160
                 rw [tNf_3 w.2.1 w.2.2.1 (by have wx := w.2.2.2.1; rcases hmi with u | u; (rw [tNv_y u.2]; omega); (rw [tNv_n u.2]; omega))] at h9
                 omega)
              | (have m_ := t170b
                 refine ⟨w.2.2.2.2, fun hf6 => ?_, fun hf6 => ?_⟩
                 · first
                   | exact zxe.trans (by have wx := w.2.2.2.1; rcases hmi with u | u; (rw [tNv_y u.2]; omega); (rw [tNv_n u.2]; omega))
                   | exact absurd hf6 h185
                 · first
                   | exact ⟨p206hv2.trans (by have wx := w.2.2.2.1; rcases hmi with u | u; (rw [tNv_y u.2]; omega); (rw [tNv_n u.2]; omega)), (zxcj (by omega) ((fr 61 _ (by omega) (by omega)).trans rfl))⟩
                   | exact absurd h185 hf6)
              | (have m_ := t170
                 rw [tNf_3 w.2.1 w.2.2.1 (by have wx := w.2.2.2.1; rcases hmi with u | u; (rw [tNv_y u.2]; omega); (rw [tNv_n u.2]; omega))] at h9
                 omega)
            · exfalso
              omega
        · refine ⟨_, sn_K_grt.up (by decide), ?_⟩
          refine ⟨(f : Int), rfl, (by omega), ?_⟩
          intro v166o p166hv p166bhv2
          refine ⟨_, _, ⟨zW6i (by omega), zW6i (by omega)⟩, fun z169 c169 => ?_⟩
          refine And.intro c169.2.2 ⟨fun h170 => ?_, fun h170 => ?_⟩
          · have t170 : (1 : Int) ≤ 2 := (by decide)
            have t170b : (1 : Int) ≤ 2 := (by decide)
            refine And.intro ⟨(by omega), (zRb rfl)⟩ ⟨fun h185 => ?_, fun h185 => ?_⟩
            · refine And.intro (zA_61 hS) (zrdR (v := some k) hob ?_)
              refine And.intro (zDX hD 0 rfl) ⟨_, sn_O_set.up (by decide), ?_⟩
              refine ⟨k, a9, (a_ : Int), a_, (w_ : Int), w_, (x : Int), rfl, hS, hR, hD, ((fr k 0 (by omega) (by omega)).trans ho0), (by omega), (by omega), (by omega), (by omega), ?_⟩
              intro L206o p206hv2 p206bfr
              refine hQ _ _ (pl : Int) ?_ ?_ (fun c j h0 h1 h2 => ((fr c j (by omega) (by omega)).trans rfl)) (fun c j h0 => ((p206bfr c j (by omega)).trans rfl)) hpl8 (by omega)
              · rcases hst with w | w
                · first
                  | exact absurd w.1 h150
                  | (have m_ := t160
                     rw [tNf_3 w.2.1 w.2.2.1 (by have wx := w.2.2.2.1; rcases hmi with u | u; (rw [tNv_y u.2]; omega); (rw [tNv_n u.2]; omega))]
                     exact zxe)
                  | (have m_ := t170b
                     rw [tNf_4 w.2.1 w.2.2.1 (by have wx := w.2.2.2.1; rcases hmi with u | u; (rw [tNv_y u.2]; omega); (rw [tNv_n u.2]; omega))]
                     exact hfv.trans w.1)
                  | (have m_ := t170
                     rw [tNf_3 w.2.1 w.2.2.1 (by have wx := w.2.2.2.1; rcases hmi with u | u; (rw [tNv_y u.2]; omega); (rw [tNv_n u.2]; omega))]
                     exact zxe)
                · first
                  | (have m_ := t150
                     exact hfv.trans w.2.2.symm)
                  | (exfalso; omega)
              · intro h9
                rcases hst with w | w
                · first
                  | exact absurd w.1 h150
                  | (have m_ := t160
                     rw [tNf_3 w.2.1 w.2.2.1 (by have wx := w.2.2.2.1; rcases hmi with u | u; (rw [tNv_y u.2]; omega); (rw [tNv_n u.2]; omega))] at h9
                     omega)
                  | (have m_ := t170b
                     refine ⟨w.2.2.2.2, fun hf6 => ?_, fun hf6 => ?_⟩
                     · first
                       | exact zxe.trans (by have wx := w.2.2.2.1; rcases hmi with u | u; (rw [tNv_y u.2]; omega); (rw [tNv_n u.2]; omega))
                       | exact absurd hf6 h185
                     · first
                       | exact ⟨p206hv2.trans (by have wx := w.2.2.2.1; rcases hmi with u | u; (rw [tNv_y u.2]; omega); (rw [tNv_n u.2]; omega)), ((fr 61 _ (by omega) (by omega)).trans rfl)⟩
                       | exact absurd h185 hf6)
                  | (have m_ := t170
                     rw [tNf_3 w.2.1 w.2.2.1 (by have wx := w.2.2.2.1; rcases hmi with u | u; (rw [tNv_y u.2]; omega); (rw [tNv_n u.2]; omega))] at h9
                     omega)
                · exfalso
                  omega
            · refine ⟨_, (zWi (by omega)), ?_⟩
              refine And.intro (zA_61 hS) ⟨_, (zWi (by omega)), ?_⟩
              refine hQ _ _ (pl : Int) ?_ ?_ (fun c j h0 h1 h2 => (zxcj h2 ((fr c j (by omega) (by omega)).trans rfl))) (fun c j h0 => rfl) hpl8 (by omega)
              · rcases hst with w | w
                · first
                  | exact absurd w.1 h150
                  | (have m_ := t160
                     rw [tNf_3 w.2.1 w.2.2.1 (by have wx := w.2.2.2.1; rcases hmi with u | u; (rw [tNv_y u.2]; omega); (rw [tNv_n u.2]; omega))]
                     exact zxe)
                  | (have m_ := t170b
                     rw [tNf_4 w.2.1 w.2.2.1 (by have wx := w.2.2.2.1; rcases hmi with u | u; (rw [tNv_y u.2]; omega); (rw [tNv_n u.2]; omega))]
                     exact hfv.trans w.1)
                  | (have m_ := t170
                     rw [tNf_3 w.2.1 w.2.2.1 (by have wx := w.2.2.2.1; rcases hmi with u | u; (rw [tNv_y u.2]; omega); (rw [tNv_n u.2]; omega))]
                     exact zxe)
                · first
                  | (have m_ := t150
                     exact hfv.trans w.2.2.symm)
                  | (exfalso; omega)
              · intro h9
                rcases hst with w | w
                · first
                  | exact absurd w.1 h150
                  | (have m_ := t160
                     rw [tNf_3 w.2.1 w.2.2.1 (by have wx := w.2.2.2.1; rcases hmi with u | u; (rw [tNv_y u.2]; omega); (rw [tNv_n u.2]; omega))] at h9
                     omega)
                  | (have m_ := t170b
                     refine ⟨w.2.2.2.2, fun hf6 => ?_, fun hf6 => ?_⟩
                     · first
                       | exact zxe.trans (by have wx := w.2.2.2.1; rcases hmi with u | u; (rw [tNv_y u.2]; omega); (rw [tNv_n u.2]; omega))
                       | exact absurd hf6 h185
                     · first
                       | exact ⟨p206hv2.trans (by have wx := w.2.2.2.1; rcases hmi with u | u; (rw [tNv_y u.2]; omega); (rw [tNv_n u.2]; omega)), (zxcj (by omega) ((fr 61 _ (by omega) (by omega)).trans rfl))⟩
                       | exact absurd h185 hf6)
                  | (have m_ := t170
                     rw [tNf_3 w.2.1 w.2.2.1 (by have wx := w.2.2.2.1; rcases hmi with u | u; (rw [tNv_y u.2]; omega); (rw [tNv_n u.2]; omega))] at h9
                     omega)
                · exfalso
                  omega
          · have t170 : (1 : Int) ≤ 2 := (by decide)
            refine And.intro (zA_61 hS) (Exists.intro _ (And.intro (zinl_ok (zT9_2 1)) (And.intro rfl ?_)))
            refine And.intro (zA_61 hS) (zrd (v := fv) hfv ?_)
            refine And.intro ⟨(by omega), (zRb rfl)⟩ ⟨(fun h5_176 => False.elim (by omega)), fun h5_176 => ?_⟩
            refine And.intro (zA_61 hS) ⟨_, (zWi (by omega)), ?_⟩
            refine hQ _ _ (pl : Int) ?_ ?_ (fun c j h0 h1 h2 => (zxcj h1 ((fr c j (by omega) (by omega)).trans rfl))) (fun c j h0 => rfl) hpl8 (by omega)
            · rcases hst with w | w
              · first
                | exact absurd w.1 h150
                | (have m_ := t160
                   rw [tNf_3 w.2.1 w.2.2.1 (by have wx := w.2.2.2.1; rcases hmi with u | u; (rw [tNv_y u.2]; omega); (rw [tNv_n u.2]; omega))]
                   exact zxe)
                | (have m_ := t170b
                   rw [tNf_4 w.2.1 w.2.2.1 (by have wx := w.2.2.2.1; rcases hmi with u | u; (rw [tNv_y u.2]; omega); (rw [tNv_n u.2]; omega))]
                   exact hfv.trans w.1)
                | (have m_ := t170
                   rw [tNf_3 w.2.1 w.2.2.1 (by have wx := w.2.2.2.1; rcases hmi with u | u; (rw [tNv_y u.2]; omega); (rw [tNv_n u.2]; omega))]
                   exact zxe)
              · first
                | (have m_ := t150
                   exact hfv.trans w.2.2.symm)
                | (exfalso; omega)
            · intro h9
              rcases hst with w | w
              · first
                | exact absurd w.1 h150
                | (have m_ := t160
                   rw [tNf_3 w.2.1 w.2.2.1 (by have wx := w.2.2.2.1; rcases hmi with u | u; (rw [tNv_y u.2]; omega); (rw [tNv_n u.2]; omega))] at h9
                   omega)
                | (have m_ := t170b
                   refine ⟨w.2.2.2.2, fun hf6 => ?_, fun hf6 => ?_⟩
                   · first
                     | exact zxe.trans (by have wx := w.2.2.2.1; rcases hmi with u | u; (rw [tNv_y u.2]; omega); (rw [tNv_n u.2]; omega))
                     | exact absurd hf6 h185
                   · first
                     | exact ⟨p206hv2.trans (by have wx := w.2.2.2.1; rcases hmi with u | u; (rw [tNv_y u.2]; omega); (rw [tNv_n u.2]; omega)), (zxcj (by omega) ((fr 61 _ (by omega) (by omega)).trans rfl))⟩
                     | exact absurd h185 hf6)
                | (have m_ := t170
                   rw [tNf_3 w.2.1 w.2.2.1 (by have wx := w.2.2.2.1; rcases hmi with u | u; (rw [tNv_y u.2]; omega); (rw [tNv_n u.2]; omega))] at h9
                   omega)
              · exfalso
                omega
    · refine And.intro (zA_61 hS) (zrd (v := fv) hfv ?_)
      refine And.intro ⟨(by omega), (zRb rfl)⟩ ⟨fun h150 => ?_, fun h150 => ?_⟩
      · have t150 : (1 : Int) ≤ 2 := (by decide)
        refine And.intro ⟨(by omega), (zRb rfl)⟩ ⟨fun h185 => ?_, fun h185 => ?_⟩
        · refine And.intro (zA_61 hS) (zrdR (v := some k) hob ?_)
          refine And.intro (zDX hD 0 rfl) ⟨_, sn_O_set.up (by decide), ?_⟩
          refine ⟨k, a9, (a_ : Int), a_, (w_ : Int), w_, ((-x) : Int), rfl, hS, hR, hD, ((fr k 0 (by omega) (by omega)).trans ho0), (by omega), (by omega), (by omega), (by omega), ?_⟩
          intro L206o p206hv2 p206bfr
          refine hQ _ _ (pl : Int) ?_ ?_ (fun c j h0 h1 h2 => ((fr c j (by omega) (by omega)).trans rfl)) (fun c j h0 => ((p206bfr c j (by omega)).trans rfl)) hpl8 (by omega)
          · rcases hst with w | w
            · first
              | exact absurd w.1 h150
              | (have m_ := t160
                 rw [tNf_3 w.2.1 w.2.2.1 (by have wx := w.2.2.2.1; rcases hmi with u | u; (rw [tNv_y u.2]; omega); (rw [tNv_n u.2]; omega))]
                 exact zxe)
              | (have m_ := t170b
                 rw [tNf_4 w.2.1 w.2.2.1 (by have wx := w.2.2.2.1; rcases hmi with u | u; (rw [tNv_y u.2]; omega); (rw [tNv_n u.2]; omega))]
                 exact hfv.trans w.1)
              | (have m_ := t170
                 rw [tNf_3 w.2.1 w.2.2.1 (by have wx := w.2.2.2.1; rcases hmi with u | u; (rw [tNv_y u.2]; omega); (rw [tNv_n u.2]; omega))]
                 exact zxe)
            · first
              | (have m_ := t150
                 exact hfv.trans w.2.2.symm)
              | (exfalso; omega)
          · intro h9
            rcases hst with w | w
            · first
              | exact absurd w.1 h150
              | (have m_ := t160
                 rw [tNf_3 w.2.1 w.2.2.1 (by have wx := w.2.2.2.1; rcases hmi with u | u; (rw [tNv_y u.2]; omega); (rw [tNv_n u.2]; omega))] at h9
                 omega)
              | (have m_ := t170b
                 refine ⟨w.2.2.2.2, fun hf6 => ?_, fun hf6 => ?_⟩
                 · first
                   | exact zxe.trans (by have wx := w.2.2.2.1; rcases hmi with u | u; (rw [tNv_y u.2]; omega); (rw [tNv_n u.2]; omega))
                   | exact absurd hf6 h185
                 · first
                   | exact ⟨p206hv2.trans (by have wx := w.2.2.2.1; rcases hmi with u | u; (rw [tNv_y u.2]; omega); (rw [tNv_n u.2]; omega)), ((fr 61 _ (by omega) (by omega)).trans rfl)⟩
                   | exact absurd h185 hf6)
              | (have m_ := t170
                 rw [tNf_3 w.2.1 w.2.2.1 (by have wx := w.2.2.2.1; rcases hmi with u | u; (rw [tNv_y u.2]; omega); (rw [tNv_n u.2]; omega))] at h9
                 omega)
            · exfalso
              omega
        · refine ⟨_, (zWi (by omega)), ?_⟩
          refine And.intro (zA_61 hS) ⟨_, (zWi (by omega)), ?_⟩
          refine hQ _ _ (pl : Int) ?_ ?_ (fun c j h0 h1 h2 => (zxcj h2 ((fr c j (by omega) (by omega)).trans rfl))) (fun c j h0 => rfl) hpl8 (by omega)
          · rcases hst with w | w
            · first
              | exact absurd w.1 h150
              | (have m_ := t160
                 rw [tNf_3 w.2.1 w.2.2.1 (by have wx := w.2.2.2.1; rcases hmi with u | u; (rw [tNv_y u.2]; omega); (rw [tNv_n u.2]; omega))]
                 exact zxe)
              | (have m_ := t170b
                 rw [tNf_4 w.2.1 w.2.2.1 (by have wx := w.2.2.2.1; rcases hmi with u | u; (rw [tNv_y u.2]; omega); (rw [tNv_n u.2]; omega))]
                 exact hfv.trans w.1)
              | (have m_ := t170
                 rw [tNf_3 w.2.1 w.2.2.1 (by have wx := w.2.2.2.1; rcases hmi with u | u; (rw [tNv_y u.2]; omega); (rw [tNv_n u.2]; omega))]
                 exact zxe)
            · first
              | (have m_ := t150
                 exact hfv.trans w.2.2.symm)
              | (exfalso; omega)
          · intro h9
            rcases hst with w | w
            · first
              | exact absurd w.1 h150
              | (have m_ := t160
                 rw [tNf_3 w.2.1 w.2.2.1 (by have wx := w.2.2.2.1; rcases hmi with u | u; (rw [tNv_y u.2]; omega); (rw [tNv_n u.2]; omega))] at h9
                 omega)
              | (have m_ := t170b
                 refine ⟨w.2.2.2.2, fun hf6 => ?_, fun hf6 => ?_⟩
                 · first
                   | exact zxe.trans (by have wx := w.2.2.2.1; rcases hmi with u | u; (rw [tNv_y u.2]; omega); (rw [tNv_n u.2]; omega))
                   | exact absurd hf6 h185
                 · first
                   | exact ⟨p206hv2.trans (by have wx := w.2.2.2.1; rcases hmi with u | u; (rw [tNv_y u.2]; omega); (rw [tNv_n u.2]; omega)), (zxcj (by omega) ((fr 61 _ (by omega) (by omega)).trans rfl))⟩
                   | exact absurd h185 hf6)
              | (have m_ := t170
                 rw [tNf_3 w.2.1 w.2.2.1 (by have wx := w.2.2.2.1; rcases hmi with u | u; (rw [tNv_y u.2]; omega); (rw [tNv_n u.2]; omega))] at h9
                 omega)
            · exfalso
              omega
      · refine ⟨_, sn_K_lst.up (by decide), ?_⟩
        refine ⟨(f : Int), rfl, (by omega), ?_⟩
        intro v156o p156hv p156bhv2
        refine ⟨_, _, ⟨zW6i (by omega), zW6i (by omega)⟩, fun z159 c159 => ?_⟩
        refine And.intro c159.2.2 ⟨fun h160 => ?_, fun h160 => ?_⟩
        · have t160 : (1 : Int) ≤ 2 := (by decide)
          refine And.intro (zA_61 hS) (Exists.intro _ (And.intro (zinl_ok (zT9_2 1)) (And.intro rfl ?_)))
          refine And.intro (zA_61 hS) (zrd (v := fv) hfv ?_)
          refine And.intro ⟨(by omega), (zRb rfl)⟩ ⟨(fun h5_176 => False.elim (by omega)), fun h5_176 => ?_⟩
          refine And.intro (zA_61 hS) ⟨_, (zWi (by omega)), ?_⟩
          refine hQ _ _ (pl : Int) ?_ ?_ (fun c j h0 h1 h2 => (zxcj h1 ((fr c j (by omega) (by omega)).trans rfl))) (fun c j h0 => rfl) hpl8 (by omega)
          · rcases hst with w | w
            · first
              | exact absurd w.1 h150
              | (have m_ := t160
                 rw [tNf_3 w.2.1 w.2.2.1 (by have wx := w.2.2.2.1; rcases hmi with u | u; (rw [tNv_y u.2]; omega); (rw [tNv_n u.2]; omega))]
                 exact zxe)
              | (have m_ := t170b
                 rw [tNf_4 w.2.1 w.2.2.1 (by have wx := w.2.2.2.1; rcases hmi with u | u; (rw [tNv_y u.2]; omega); (rw [tNv_n u.2]; omega))]
                 exact hfv.trans w.1)
              | (have m_ := t170
                 rw [tNf_3 w.2.1 w.2.2.1 (by have wx := w.2.2.2.1; rcases hmi with u | u; (rw [tNv_y u.2]; omega); (rw [tNv_n u.2]; omega))]
                 exact zxe)
            · first
              | (have m_ := t150
                 exact hfv.trans w.2.2.symm)
              | (exfalso; omega)
          · intro h9
            rcases hst with w | w
            · first
              | exact absurd w.1 h150
              | (have m_ := t160
                 rw [tNf_3 w.2.1 w.2.2.1 (by have wx := w.2.2.2.1; rcases hmi with u | u; (rw [tNv_y u.2]; omega); (rw [tNv_n u.2]; omega))] at h9
                 omega)
              | (have m_ := t170b
                 refine ⟨w.2.2.2.2, fun hf6 => ?_, fun hf6 => ?_⟩
                 · first
                   | exact zxe.trans (by have wx := w.2.2.2.1; rcases hmi with u | u; (rw [tNv_y u.2]; omega); (rw [tNv_n u.2]; omega))
                   | exact absurd hf6 h185
                 · first
                   | exact ⟨p206hv2.trans (by have wx := w.2.2.2.1; rcases hmi with u | u; (rw [tNv_y u.2]; omega); (rw [tNv_n u.2]; omega)), (zxcj (by omega) ((fr 61 _ (by omega) (by omega)).trans rfl))⟩
                   | exact absurd h185 hf6)
              | (have m_ := t170
                 rw [tNf_3 w.2.1 w.2.2.1 (by have wx := w.2.2.2.1; rcases hmi with u | u; (rw [tNv_y u.2]; omega); (rw [tNv_n u.2]; omega))] at h9
                 omega)
            · exfalso
              omega
        · refine ⟨_, sn_K_grt.up (by decide), ?_⟩
          refine ⟨(f : Int), rfl, (by omega), ?_⟩
          intro v166o p166hv p166bhv2
          refine ⟨_, _, ⟨zW6i (by omega), zW6i (by omega)⟩, fun z169 c169 => ?_⟩
          refine And.intro c169.2.2 ⟨fun h170 => ?_, (fun h170 => False.elim (by omega))⟩
          have t170 : (1 : Int) ≤ 2 := (by decide)
          have t170b : (1 : Int) ≤ 2 := (by decide)
          refine And.intro ⟨(by omega), (zRb rfl)⟩ ⟨fun h185 => ?_, fun h185 => ?_⟩
          · refine And.intro (zA_61 hS) (zrdR (v := some k) hob ?_)
            refine And.intro (zDX hD 0 rfl) ⟨_, sn_O_set.up (by decide), ?_⟩
            refine ⟨k, a9, (a_ : Int), a_, (w_ : Int), w_, ((-x) : Int), rfl, hS, hR, hD, ((fr k 0 (by omega) (by omega)).trans ho0), (by omega), (by omega), (by omega), (by omega), ?_⟩
            intro L206o p206hv2 p206bfr
            refine hQ _ _ (pl : Int) ?_ ?_ (fun c j h0 h1 h2 => ((fr c j (by omega) (by omega)).trans rfl)) (fun c j h0 => ((p206bfr c j (by omega)).trans rfl)) hpl8 (by omega)
            · rcases hst with w | w
              · first
                | exact absurd w.1 h150
                | (have m_ := t160
                   rw [tNf_3 w.2.1 w.2.2.1 (by have wx := w.2.2.2.1; rcases hmi with u | u; (rw [tNv_y u.2]; omega); (rw [tNv_n u.2]; omega))]
                   exact zxe)
                | (have m_ := t170b
                   rw [tNf_4 w.2.1 w.2.2.1 (by have wx := w.2.2.2.1; rcases hmi with u | u; (rw [tNv_y u.2]; omega); (rw [tNv_n u.2]; omega))]
                   exact hfv.trans w.1)
                | (have m_ := t170
                   rw [tNf_3 w.2.1 w.2.2.1 (by have wx := w.2.2.2.1; rcases hmi with u | u; (rw [tNv_y u.2]; omega); (rw [tNv_n u.2]; omega))]
                   exact zxe)
              · first
                | (have m_ := t150
                   exact hfv.trans w.2.2.symm)
                | (exfalso; omega)
            · intro h9
              rcases hst with w | w
              · first
                | exact absurd w.1 h150
                | (have m_ := t160
                   rw [tNf_3 w.2.1 w.2.2.1 (by have wx := w.2.2.2.1; rcases hmi with u | u; (rw [tNv_y u.2]; omega); (rw [tNv_n u.2]; omega))] at h9
                   omega)
                | (have m_ := t170b
                   refine ⟨w.2.2.2.2, fun hf6 => ?_, fun hf6 => ?_⟩
                   · first
                     | exact zxe.trans (by have wx := w.2.2.2.1; rcases hmi with u | u; (rw [tNv_y u.2]; omega); (rw [tNv_n u.2]; omega))
                     | exact absurd hf6 h185
                   · first
                     | exact ⟨p206hv2.trans (by have wx := w.2.2.2.1; rcases hmi with u | u; (rw [tNv_y u.2]; omega); (rw [tNv_n u.2]; omega)), ((fr 61 _ (by omega) (by omega)).trans rfl)⟩
                     | exact absurd h185 hf6)
                | (have m_ := t170
                   rw [tNf_3 w.2.1 w.2.2.1 (by have wx := w.2.2.2.1; rcases hmi with u | u; (rw [tNv_y u.2]; omega); (rw [tNv_n u.2]; omega))] at h9
                   omega)
              · exfalso
                omega
          · refine ⟨_, (zWi (by omega)), ?_⟩
            refine And.intro (zA_61 hS) ⟨_, (zWi (by omega)), ?_⟩
            refine hQ _ _ (pl : Int) ?_ ?_ (fun c j h0 h1 h2 => (zxcj h2 ((fr c j (by omega) (by omega)).trans rfl))) (fun c j h0 => rfl) hpl8 (by omega)
            · rcases hst with w | w
              · first
                | exact absurd w.1 h150
                | (have m_ := t160
                   rw [tNf_3 w.2.1 w.2.2.1 (by have wx := w.2.2.2.1; rcases hmi with u | u; (rw [tNv_y u.2]; omega); (rw [tNv_n u.2]; omega))]
                   exact zxe)
                | (have m_ := t170b
                   rw [tNf_4 w.2.1 w.2.2.1 (by have wx := w.2.2.2.1; rcases hmi with u | u; (rw [tNv_y u.2]; omega); (rw [tNv_n u.2]; omega))]
                   exact hfv.trans w.1)
                | (have m_ := t170
                   rw [tNf_3 w.2.1 w.2.2.1 (by have wx := w.2.2.2.1; rcases hmi with u | u; (rw [tNv_y u.2]; omega); (rw [tNv_n u.2]; omega))]
                   exact zxe)
              · first
                | (have m_ := t150
                   exact hfv.trans w.2.2.symm)
                | (exfalso; omega)
            · intro h9
              rcases hst with w | w
              · first
                | exact absurd w.1 h150
                | (have m_ := t160
                   rw [tNf_3 w.2.1 w.2.2.1 (by have wx := w.2.2.2.1; rcases hmi with u | u; (rw [tNv_y u.2]; omega); (rw [tNv_n u.2]; omega))] at h9
                   omega)
                | (have m_ := t170b
                   refine ⟨w.2.2.2.2, fun hf6 => ?_, fun hf6 => ?_⟩
                   · first
                     | exact zxe.trans (by have wx := w.2.2.2.1; rcases hmi with u | u; (rw [tNv_y u.2]; omega); (rw [tNv_n u.2]; omega))
                     | exact absurd hf6 h185
                   · first
                     | exact ⟨p206hv2.trans (by have wx := w.2.2.2.1; rcases hmi with u | u; (rw [tNv_y u.2]; omega); (rw [tNv_n u.2]; omega)), (zxcj (by omega) ((fr 61 _ (by omega) (by omega)).trans rfl))⟩
                     | exact absurd h185 hf6)
                | (have m_ := t170
                   rw [tNf_3 w.2.1 w.2.2.1 (by have wx := w.2.2.2.1; rcases hmi with u | u; (rw [tNv_y u.2]; omega); (rw [tNv_n u.2]; omega))] at h9
                   omega)
              · exfalso
                omega)
def T_K_txt2 : ZT := fun args I L R S Q => ∃ (c : Nat → Int) (n : Nat) (p : Nat) (k : Nat) (a9 : Int) (a : Int) (a_ : Nat) (w : Int) (w_ : Nat) (cc : Nat), args = [zvr 61, zvi a, zvi w] ∧ (zSh S) ∧ (zRs R) ∧ (R 61 0 = some 42) ∧ (zRD c n I) ∧ (tOk c n) ∧ (I 61 2 = p) ∧ (p ≤ 5000) ∧ (R 61 7 = some k) ∧ (zDy zT2 zF2 k R S) ∧ (43 ≤ k ∧ k ≤ 52) ∧ (I k 0 = a9) ∧ (0 ≤ a9 ∧ a9 ≤ 200) ∧ (a = a_ ∧ a_ < a9) ∧ (w = w_ ∧ w_ < 2) ∧ (I 61 3 = -1) ∧ (I k 10 = cc) ∧ (cc ≤ p) ∧ (I (k + 6) (2 * a_ + w_) = 0) ∧ ∀ (I' : ZI) (pl : Int), (I' 61 3 = tXf c p) → (tXf c p = -1 → I' 61 2 = tXe c p ∧ I' k 10 = cc + tXl c p ∧ I' (k + 5) (2 * a_ + w_) = cc ∧ I' (k + 6) (2 * a_ + w_) = tXl c p ∧ ∀ i, i < tXl c p → I' (k + 7) (cc + i) = tLt c p i) → (∀ c j : Nat, ¬ (c = 61 ∧ j = 2) → ¬ (c = 61 ∧ j = 3) → ¬ (c = k ∧ j = 10) → ¬ (c = k + 5 ∧ j = 2 * a_ + w_) → ¬ (c = k + 6 ∧ j = 2 * a_ + w_) → ¬ (c = k + 7 ∧ cc ≤ j) → I' c j = I c j) → (I' 61 2 = pl) → (0 ≤ pl ∧ (pl ≤ p + 100 ∨ pl ≤ n + 2)) → Q none I' L R S
theorem sn_K_txt2 : ZSnd 3 9 22 T_K_txt2 := ZSnd.loops (zT9_22 2) (by
  rintro args I L R S Q hz ⟨c, n, p, k, a9, a, a_, w, w_, cc, rfl, hS, hR, htx, hX, hc, hp, hp9, hob, hD, hk, ho0, ha9, ha, hw, hf0, hcc, hcp, hm0, hQ⟩
  obtain ⟨x1, x2⟩ := id hX
  have hn4 := hc.1
  have hk1 := hk.1
  have hk2 := hk.2
  refine ⟨[73], fun nM tM lsM stM I1 L1 R1 S1 => match tM with
      | 73 => ∃ (m : Nat) (q : Nat), nM = ((41 - m), 0, 0) ∧ lsM = [some (zvr (61)), some (zvi (a_)), some (zvi (w_)), some (zvi (m))] ∧ stM = [] ∧ L1 = L ∧ R1 = R ∧ S1 = S ∧ (c p = 34) ∧ (m ≤ 40) ∧ (q = tPo c p m) ∧ (p + 1 + m ≤ q ∧ q ≤ n) ∧ (c q ≠ 34) ∧ (∀ i, i < m → ¬ tXs c p i) ∧ (I1 61 2 = q) ∧ (I1 61 3 = -1) ∧ (I1 k 10 = cc + m) ∧ (I1 (k + 5) (2 * a_ + w_) = cc) ∧ (I1 (k + 6) (2 * a_ + w_) = m) ∧ (∀ i, i < m → I1 (k + 7) (cc + i) = tLt c p i) ∧ (∀ c j : Nat, ¬ (c = 61 ∧ j = 2) → ¬ (c = k ∧ j = 10) → ¬ (c = k + 5 ∧ j = 2 * a_ + w_) → ¬ (c = k + 6 ∧ j = 2 * a_ + w_) → ¬ (c = k + 7 ∧ cc ≤ j) → I1 c j = I c j)
      | _ => False, rfl, ?_, ⟨?_, True.intro⟩⟩
  · refine And.intro (zA_61 hS) ⟨_, sn_K_peek.up (by decide), ?_⟩
    refine ⟨c, n, p, rfl, hS, hR, htx, (by first | exact (zRD_fr hX (fun c j h => rfl)) | (clear hQ; grind [xu])), (by first | exact hc | (clear hQ; grind [xu])), hp, (by omega), ?_⟩
    intro v1o p1hv p1bhv2
    refine And.intro ⟨(by omega), (zRb rfl)⟩ ⟨fun h6 => ?_, fun h6 => ?_⟩
    · refine And.intro (zA_61 hS) (zrd (v := p) hp ?_)
      refine And.intro (zA_61 hS) ⟨_, (zWi (by omega)), ?_⟩
      refine And.intro (zA_61 hS) (zrdR (v := some k) hob ?_)
      refine And.intro (zDX hD 0 rfl) ⟨_, sn_O_stx.up (by decide), ?_⟩
      refine ⟨k, a9, (a : Int), a_, (w : Int), w_, cc, rfl, hS, hR, hD, (zxu (by omega) ho0), (by omega), (by omega), (by omega), (zxu (by omega) hcc), (by omega), ?_⟩
      intro I34o p34hs p34bfr
      refine And.intro ⟨(zRb rfl), (zRb rfl)⟩ (zbf rfl ?_)
      refine And.intro (zA_61 hS) (zrd (v := (-1)) ((p34bfr 61 3 (by omega)).trans hf0) ?_)
      refine And.intro ⟨(zRb rfl), (zRb rfl)⟩ (zbf rfl ?_)
      refine And.intro (zA_61 hS) ⟨_, sn_K_peek.up (by decide), ?_⟩
      refine ⟨c, n, (p + 1), rfl, hS, hR, htx, (by first | exact (zRD_fr hX (fun c j h => ((p34bfr c j (by omega)).trans (zxcj (by omega) rfl)))) | (clear hQ; grind [xu])), (by first | exact hc | (clear hQ; grind [xu])), ((p34bfr 61 2 (by omega)).trans rfl), (by omega), ?_⟩
      intro v54o p54hv p54bhv2
      refine And.intro ⟨(by omega), (zRb rfl)⟩ ⟨fun h59 => ?_, fun h59 => ?_⟩
      · refine ⟨((41 - (0 : Nat)), 0, 0), [some (zvr (61)), some (zvi (a_)), some (zvi (w_)), some (zvi ((0 : Nat)))], ⟨rfl, (congrArg (fun z => some (zvi z)) (by omega)), (congrArg (fun z => some (zvi z)) (by omega)), rfl, rfl⟩, 0, (p + 1), rfl, rfl, rfl, rfl, rfl, rfl, (by omega), (by omega), rfl, (by omega), (by omega), (fun i h => absurd h (Nat.not_lt_zero i)), ((p34bfr 61 2 (by omega)).trans rfl), (Eq.trans (b := ((-1) : Int)) ((p34bfr 61 3 (by omega)).trans hf0) (by omega)), (Eq.trans (b := (cc : Int)) ((p34bfr k 10 (by omega)).trans (zxu (by omega) hcc)) (by omega)), p34hs, (((p34bfr (k + 6) _ (by omega)).trans (zxcj (by omega) rfl)).trans hm0), (fun i h => absurd h (Nat.not_lt_zero i)), (fun c j h0 h1 h2 h3 h4 => ((p34bfr c j (by omega)).trans (zxcj h0 rfl)))⟩
      · refine And.intro (zA_61 hS) (zrd (v := (p + 1)) ((p34bfr 61 2 (by omega)).trans rfl) ?_)
        refine And.intro (zA_61 hS) ⟨_, (zWi (by omega)), ?_⟩
        refine hQ _ (((p + 1) + 1) : Int) ?_ ?_ (fun c j h0 h1 h2 h3 h4 h5 => (zxcj h0 ((p34bfr c j (by omega)).trans (zxcj h0 rfl)))) rfl (by omega)
        · first
          | exact zxe.trans (tXf_n (by omega)).symm
          | exact zxe.trans (tXf_a h0 hq (by omega) hn (by omega) (by omega)).symm
          | exact zxe.trans ((by omega : _ = ((q : Nat) : Int) + 1).trans (tXf_b h0 hq (by omega) hn (by omega) (by omega) (by omega) (by omega)).symm)
          | exact (zxcj (by omega) ((p34bfr 61 _ (by omega)).trans (zxcj (by omega) rfl))).trans (hf0.trans (tXf_q (c := c) (p := p) (m := 0) (q := p + 1) (by omega) rfl (by omega) (fun i h => absurd h (Nat.not_lt_zero i)) (by omega)).1.symm)
          | exact (zxcj (by omega) ((p34bfr 61 _ (by omega)).trans (zxcj (by omega) rfl))).trans (hf1.trans (tXf_q h0 (m := m + 1) rfl (by omega) (tXs_up hn g134) (by omega)).1.symm)
        · intro h9
          first
          | (exfalso; rw [tXf_n (by omega)] at h9; omega)
          | (exfalso; rw [tXf_a h0 hq (by omega) hn (by omega) (by omega)] at h9; omega)
          | (exfalso; rw [tXf_b h0 hq (by omega) hn (by omega) (by omega) (by omega) (by omega)] at h9; omega)
          | (have e := tXf_q (c := c) (p := p) (m := 0) (q := p + 1) (by omega) rfl (by omega) (fun i h => absurd h (Nat.not_lt_zero i)) (by omega)
             rw [e.2.1, e.2.2]
             exact ⟨zxe.trans (by omega), ((zxcj (by omega) ((p34bfr k _ (by omega)).trans (zxcj (by omega) rfl))).trans hcc).trans (by omega), zxu (by omega) p34hs, ((zxcj (by omega) ((p34bfr (k + 6) _ (by omega)).trans (zxcj (by omega) rfl))).trans hm0).trans (by omega), (fun i h => absurd h (Nat.not_lt_zero i))⟩)
          | (have e := tXf_q h0 (m := m + 1) rfl (by omega) (tXs_up hn g134) (by omega)
             rw [e.2.1, e.2.2]
             refine ⟨zxe.trans (by omega), (zxu (by omega) (zxu (by omega) p134hc1)).trans (by omega), (zxu (by omega) ((p34bfr (k + 5) _ (by omega)).trans (zxu (by omega) rfl))).trans hs5, (zxu (by omega) (zxu (by omega) p134bhm1)).trans (by omega), fun i hi => ?_⟩
             by_cases e : i = m
             · subst e
               exact (zxu (by omega) (zxu (by omega) p134bbhl1)).trans f133
             · exact (zxu (by omega) ((p34bfr (k + 7) _ (by omega)).trans (zxu (by omega) rfl))).trans (hl i (by omega)))
    · refine And.intro (zA_61 hS) (zrd (v := p) hp ?_)
      refine And.intro (zA_61 hS) (Exists.intro _ (And.intro (zinl_ok (zT9_2 1)) (And.intro rfl ?_)))
      refine And.intro (zA_61 hS) (zrd (v := (-1)) hf0 ?_)
      refine And.intro ⟨(zRb rfl), (zRb rfl)⟩ (zbf rfl ?_)
      refine And.intro (zA_61 hS) ⟨_, (zWi (by omega)), ?_⟩
      refine hQ _ (p : Int) ?_ ?_ (fun c j h0 h1 h2 h3 h4 h5 => (zxcj h1 rfl)) hp (by omega)
      · first
        | exact zxe.trans (tXf_n (by omega)).symm
        | exact zxe.trans (tXf_a h0 hq (by omega) hn (by omega) (by omega)).symm
        | exact zxe.trans ((by omega : _ = ((q : Nat) : Int) + 1).trans (tXf_b h0 hq (by omega) hn (by omega) (by omega) (by omega) (by omega)).symm)
        | exact (zxcj (by omega) rfl).trans (hf0.trans (tXf_q (c := c) (p := p) (m := 0) (q := p + 1) (by omega) rfl (by omega) (fun i h => absurd h (Nat.not_lt_zero i)) (by omega)).1.symm)
        | exact (zxcj (by omega) rfl).trans (hf1.trans (tXf_q h0 (m := m + 1) rfl (by omega) (tXs_up hn g134) (by omega)).1.symm)
      · intro h9
        first
        | (exfalso; rw [tXf_n (by omega)] at h9; omega)
        | (exfalso; rw [tXf_a h0 hq (by omega) hn (by omega) (by omega)] at h9; omega)
        | (exfalso; rw [tXf_b h0 hq (by omega) hn (by omega) (by omega) (by omega) (by omega)] at h9; omega)
        | (have e := tXf_q (c := c) (p := p) (m := 0) (q := p + 1) (by omega) rfl (by omega) (fun i h => absurd h (Nat.not_lt_zero i)) (by omega)
           rw [e.2.1, e.2.2]
           exact ⟨zxe.trans (by omega), ((zxcj (by omega) rfl).trans hcc).trans (by omega), zxu (by omega) p34hs, ((zxcj (by omega) rfl).trans hm0).trans (by omega), (fun i h => absurd h (Nat.not_lt_zero i))⟩)
        | (have e := tXf_q h0 (m := m + 1) rfl (by omega) (tXs_up hn g134) (by omega)
           rw [e.2.1, e.2.2]
           refine ⟨zxe.trans (by omega), (zxu (by omega) (zxu (by omega) p134hc1)).trans (by omega), (zxu (by omega) rfl).trans hs5, (zxu (by omega) (zxu (by omega) p134bhm1)).trans (by omega), fun i hi => ?_⟩
           by_cases e : i = m
           · subst e
             exact (zxu (by omega) (zxu (by omega) p134bbhl1)).trans f133
           · exact (zxu (by omega) rfl).trans (hl i (by omega)))
  · rintro nM lsM stM I1 L1 R1 S1 hz1 ⟨m, q, rfl, rfl, rfl, rfl, rfl, rfl, h0, hm, hq, hqb, hne, hn, hpl, hf1, hc1, hs5, hm1, hl, fr⟩
    have pos := tPo_s hq
    have let_ := tLt_s hq
    have cq := hc.2.1 q
    have cq1 := hc.2.1 (q + 1)
    have cq2 := hc.2.2 q
    have cq3 := hc.2.2 (q + 1)
    refine And.intro ⟨(by omega), (zRb rfl)⟩ ⟨fun h76 => ?_, fun h76 => ?_⟩
    · refine And.intro (zA_61 hS) (zrd (v := q) hpl ?_)
      refine And.intro (zA_61 hS) (Exists.intro _ (And.intro (zinl_ok (zT9_2 1)) (And.intro rfl ?_)))
      refine And.intro (zA_61 hS) (zrd (v := (-1)) hf1 ?_)
      refine And.intro ⟨(zRb rfl), (zRb rfl)⟩ (zbf rfl ?_)
      refine And.intro (zA_61 hS) ⟨_, (zWi (by omega)), ?_⟩
      refine And.intro (zA_61 hS) (Exists.intro _ (And.intro (zinl_ok (zT9_26 1)) (And.intro rfl ?_)))
      refine And.intro (zA_61 hS) (zrd (v := q) rfl ?_)
      refine And.intro ⟨(by omega), (zRb rfl)⟩ ⟨fun h5_97 => ?_, (fun h5_97 => False.elim (by omega))⟩
      refine And.intro (zA_61 hS) (zrd (v := q) rfl ?_)
      refine And.intro ⟨(by omega), (zRb rfl)⟩ ⟨fun h105 => ?_, (fun h105 => False.elim (by omega))⟩
      refine And.intro (zA_61 hS) (zrd (v := q) hpl ?_)
      refine And.intro (zA_61 hS) (Exists.intro _ (And.intro (zinl_ok (zT9_2 1)) (And.intro rfl ?_)))
      refine And.intro (zA_61 hS) (zrd (v := q) rfl ?_)
      refine And.intro ⟨(by omega), (zRb rfl)⟩ ⟨fun h5_155 => ?_, (fun h5_155 => False.elim (by omega))⟩
      refine And.intro ⟨(by omega), (zRb rfl)⟩ ⟨fun h42 => ?_, (fun h42 => False.elim (by omega))⟩
      refine hQ _ (q : Int) ?_ ?_ (fun c j h0 h1 h2 h3 h4 h5 => (zxcj h1 ((fr c j (by omega) (by omega) (by omega) (by omega) (by omega)).trans rfl))) hpl (by omega)
      · first
        | exact zxe.trans (tXf_n (by omega)).symm
        | exact zxe.trans (tXf_a h0 hq (by omega) hn (by omega) (by omega)).symm
        | exact zxe.trans ((by omega : _ = ((q : Nat) : Int) + 1).trans (tXf_b h0 hq (by omega) hn (by omega) (by omega) (by omega) (by omega)).symm)
        | exact (zxcj (by omega) ((fr 61 _ (by omega) (by omega) (by omega) (by omega) (by omega)).trans rfl)).trans (hf0.trans (tXf_q (c := c) (p := p) (m := 0) (q := p + 1) (by omega) rfl (by omega) (fun i h => absurd h (Nat.not_lt_zero i)) (by omega)).1.symm)
        | exact (zxcj (by omega) rfl).trans (hf1.trans (tXf_q h0 (m := m + 1) rfl (by omega) (tXs_up hn g134) (by omega)).1.symm)
      · intro h9
        first
        | (exfalso; rw [tXf_n (by omega)] at h9; omega)
        | (exfalso; rw [tXf_a h0 hq (by omega) hn (by omega) (by omega)] at h9; omega)
        | (exfalso; rw [tXf_b h0 hq (by omega) hn (by omega) (by omega) (by omega) (by omega)] at h9; omega)
        | (have e := tXf_q (c := c) (p := p) (m := 0) (q := p + 1) (by omega) rfl (by omega) (fun i h => absurd h (Nat.not_lt_zero i)) (by omega)
           rw [e.2.1, e.2.2]
           exact ⟨zxe.trans (by omega), ((zxcj (by omega) ((fr k _ (by omega) (by omega) (by omega) (by omega) (by omega)).trans rfl)).trans hcc).trans (by omega), zxu (by omega) p34hs, ((zxcj (by omega) ((fr (k + 6) _ (by omega) (by omega) (by omega) (by omega) (by omega)).trans rfl)).trans hm0).trans (by omega), (fun i h => absurd h (Nat.not_lt_zero i))⟩)
        | (have e := tXf_q h0 (m := m + 1) rfl (by omega) (tXs_up hn g134) (by omega)
           rw [e.2.1, e.2.2]
           refine ⟨zxe.trans (by omega), (zxu (by omega) (zxu (by omega) p134hc1)).trans (by omega), (zxu (by omega) rfl).trans hs5, (zxu (by omega) (zxu (by omega) p134bhm1)).trans (by omega), fun i hi => ?_⟩
           by_cases e : i = m
           · subst e
             exact (zxu (by omega) (zxu (by omega) p134bbhl1)).trans f133
           · exact (zxu (by omega) rfl).trans (hl i (by omega)))
    · refine And.intro (zA_61 hS) ⟨_, sn_K_peek.up (by decide), ?_⟩
      refine ⟨c, n, q, rfl, hS, hR, htx, (by first | exact (zRD_fr hX (fun c j h => ((fr c j (by omega) (by omega) (by omega) (by omega) (by omega)).trans rfl))) | (clear hQ; grind [xu])), (by first | exact hc | (clear hQ; grind [xu])), hpl, (by omega), ?_⟩
      intro v80o p80hv p80bhv2
      refine And.intro ⟨(by omega), (zRb rfl)⟩ ⟨fun h85 => ?_, fun h85 => ?_⟩
      · refine And.intro (zA_61 hS) (Exists.intro _ (And.intro (zinl_ok (zT9_26 1)) (And.intro rfl ?_)))
        refine And.intro (zA_61 hS) (zrd (v := (-1)) hf1 ?_)
        refine And.intro ⟨(zRb rfl), (zRb rfl)⟩ (zbf rfl ?_)
        refine And.intro (zA_61 hS) ⟨_, sn_K_peek.up (by decide), ?_⟩
        refine ⟨c, n, q, rfl, hS, hR, htx, (by first | exact (zRD_fr hX (fun c j h => ((fr c j (by omega) (by omega) (by omega) (by omega) (by omega)).trans rfl))) | (clear hQ; grind [xu])), (by first | exact hc | (clear hQ; grind [xu])), hpl, (by omega), ?_⟩
        intro v9_97o p9_97hv p9_97bhv2
        refine And.intro ⟨(by omega), (zRb rfl)⟩ ⟨fun h14_97 => ?_, fun h14_97 => ?_⟩
        · refine And.intro (zA_61 hS) (zrd (v := (-1)) hf1 ?_)
          refine And.intro ⟨(zRb rfl), (zRb rfl)⟩ (zbf rfl ?_)
          refine And.intro (zA_61 hS) (zrd (v := q) hpl ?_)
          refine And.intro (zA_61 hS) (zrd (v := n) ((fr 61 1 (by omega) (by omega) (by omega) (by omega) (by omega)).trans x1) ?_)
          refine And.intro ⟨(by omega), (by omega)⟩ ⟨fun h116 => ?_, fun h116 => ?_⟩
          · refine And.intro (zA_61 hS) (zrd (v := q) hpl ?_)
            refine And.intro (zA_61 hS) (Exists.intro _ (And.intro (zinl_ok (zT9_2 1)) (And.intro rfl ?_)))
            refine And.intro (zA_61 hS) (zrd (v := (-1)) hf1 ?_)
            refine And.intro ⟨(zRb rfl), (zRb rfl)⟩ (zbf rfl ?_)
            refine And.intro (zA_61 hS) ⟨_, (zWi (by omega)), ?_⟩
            refine And.intro ⟨(by omega), (zRb rfl)⟩ ⟨(fun h42 => False.elim (by omega)), fun h42 => ?_⟩
            refine And.intro (zA_61 hS) (zrd (v := q) rfl ?_)
            refine And.intro ⟨(by omega), (zRb rfl)⟩ ⟨fun h50 => ?_, (fun h50 => False.elim (by omega))⟩
            refine hQ _ (q : Int) ?_ ?_ (fun c j h0 h1 h2 h3 h4 h5 => (zxcj h1 ((fr c j (by omega) (by omega) (by omega) (by omega) (by omega)).trans rfl))) hpl (by omega)
            · first
              | exact zxe.trans (tXf_n (by omega)).symm
              | exact zxe.trans (tXf_a h0 hq (by omega) hn (by omega) (by omega)).symm
              | exact zxe.trans ((by omega : _ = ((q : Nat) : Int) + 1).trans (tXf_b h0 hq (by omega) hn (by omega) (by omega) (by omega) (by omega)).symm)
              | exact (zxcj (by omega) ((fr 61 _ (by omega) (by omega) (by omega) (by omega) (by omega)).trans rfl)).trans (hf0.trans (tXf_q (c := c) (p := p) (m := 0) (q := p + 1) (by omega) rfl (by omega) (fun i h => absurd h (Nat.not_lt_zero i)) (by omega)).1.symm)
              | exact (zxcj (by omega) rfl).trans (hf1.trans (tXf_q h0 (m := m + 1) rfl (by omega) (tXs_up hn g134) (by omega)).1.symm)
            · intro h9
              first
              | (exfalso; rw [tXf_n (by omega)] at h9; omega)
              | (exfalso; rw [tXf_a h0 hq (by omega) hn (by omega) (by omega)] at h9; omega)
              | (exfalso; rw [tXf_b h0 hq (by omega) hn (by omega) (by omega) (by omega) (by omega)] at h9; omega)
              | (have e := tXf_q (c := c) (p := p) (m := 0) (q := p + 1) (by omega) rfl (by omega) (fun i h => absurd h (Nat.not_lt_zero i)) (by omega)
                 rw [e.2.1, e.2.2]
                 exact ⟨zxe.trans (by omega), ((zxcj (by omega) ((fr k _ (by omega) (by omega) (by omega) (by omega) (by omega)).trans rfl)).trans hcc).trans (by omega), zxu (by omega) p34hs, ((zxcj (by omega) ((fr (k + 6) _ (by omega) (by omega) (by omega) (by omega) (by omega)).trans rfl)).trans hm0).trans (by omega), (fun i h => absurd h (Nat.not_lt_zero i))⟩)
              | (have e := tXf_q h0 (m := m + 1) rfl (by omega) (tXs_up hn g134) (by omega)
                 rw [e.2.1, e.2.2]
                 refine ⟨zxe.trans (by omega), (zxu (by omega) (zxu (by omega) p134hc1)).trans (by omega), (zxu (by omega) rfl).trans hs5, (zxu (by omega) (zxu (by omega) p134bhm1)).trans (by omega), fun i hi => ?_⟩
                 by_cases e : i = m
                 · subst e
                   exact (zxu (by omega) (zxu (by omega) p134bbhl1)).trans f133
                 · exact (zxu (by omega) rfl).trans (hl i (by omega)))
          · refine And.intro (zA_61 hS) (zrdR (v := some k) hob ?_)
            refine And.intro (zA_61 hS) (zrdR (v := some 42) htx ?_)
            refine And.intro (zA_61 hS) (zrd (v := q) hpl ?_)
            refine And.intro (zP_42 hS (by omega) (by omega)) (fun v133 e133 r133 => ?_)
            have f133 : v133 = tLt c p m := (by first | exact (e133.trans (((fr 42 _ (by omega) (by omega) (by omega) (by omega) (by omega)).trans rfl).trans ((congrArg (I 42) (by omega)).trans (x2 q (by omega))))).trans (let_.2 (by omega)).symm | exact (e133.trans (((fr 42 _ (by omega) (by omega) (by omega) (by omega) (by omega)).trans rfl).trans ((congrArg (I 42) (by omega)).trans (x2 (q + 1) (by omega))))).trans (let_.1 (by omega)).symm)
            have f133b : 10 ≤ tLt c p m ∧ tLt c p m ≤ 126 := (by have e := let_; omega)
            refine And.intro (zDX hD 0 rfl) ⟨_, sn_O_adl.up (by decide), ?_⟩
            refine ⟨k, a9, (a_ : Int), a_, (w_ : Int), w_, (cc + m), (v133 : Int), m, rfl, hS, hR, hD, ((fr k 0 (by omega) (by omega) (by omega) (by omega) (by omega)).trans ho0), (by omega), (by omega), (by omega), hc1, (by omega), (by omega), (by clear hQ; grind [xu]), (by omega), ?_⟩
            intro I134o p134hc1 p134bhm1 p134bbhl1 p134bbbfr
            have g134 : ¬ tXs c p m := (tXs_n hq (by omega) (by omega) (by omega) (by omega))
            have g134b : tPo c p (m + 1) ≤ n ∧ p + 2 + m ≤ tPo c p (m + 1) := (by by_cases e : c q = 92; (rw [pos.1 e]; omega); (rw [pos.2 e]; omega))
            refine And.intro (zA_61 hS) (zrd (v := q) ((p134bbbfr 61 2 (by omega) (by omega) (by omega)).trans hpl) ?_)
            refine And.intro (zA_61 hS) ⟨_, (zWi (by omega)), ?_⟩
            refine And.intro ⟨(by omega), (zRb rfl)⟩ ⟨(fun h42 => False.elim (by omega)), fun h42 => ?_⟩
            refine And.intro (zA_61 hS) (zrd (v := (-1)) ((p134bbbfr 61 3 (by omega) (by omega) (by omega)).trans hf1) ?_)
            refine And.intro ⟨(zRb rfl), (zRb rfl)⟩ (zbf rfl ?_)
            refine And.intro (zA_61 hS) ⟨_, sn_K_peek.up (by decide), ?_⟩
            refine ⟨c, n, (tPo c p (m + 1)), rfl, hS, hR, htx, (by first | exact (zRD_fr hX (fun c j h => (zxcj (by omega) ((p134bbbfr c j (by omega) (by omega) (by omega)).trans ((fr c j (by omega) (by omega) (by omega) (by omega) (by omega)).trans rfl))))) | (clear hQ; grind [xu])), (by first | exact hc | (clear hQ; grind [xu])), (Eq.trans (b := ((q + 1) : Int)) rfl (by omega)), (by omega), ?_⟩
            intro v54o p54hv p54bhv2
            refine And.intro ⟨(by omega), (zRb rfl)⟩ ⟨fun h59 => ?_, fun h59 => ?_⟩
            · refine ⟨((41 - (m + 1)), 0, 0), zlt6 (by omega), [some (zvr (61)), some (zvi (a_)), some (zvi (w_)), some (zvi ((m + 1)))], ⟨rfl, rfl, rfl, rfl, rfl⟩, (m + 1), (tPo c p (m + 1)), rfl, rfl, rfl, rfl, rfl, rfl, h0, (by omega), rfl, (by omega), (by omega), (tXs_up hn g134), (zxe.trans (by omega)), (Eq.trans (b := ((-1) : Int)) ((p134bbbfr 61 3 (by omega) (by omega) (by omega)).trans hf1) (by omega)), (Eq.trans (b := (((cc + m) + 1) : Int)) (zxu (by omega) p134hc1) (by omega)), ((zxu (by omega) ((p134bbbfr (k + 5) _ (by omega) (by omega) (by omega)).trans rfl)).trans hs5), (by first | exact hm1 | (clear hQ; grind [xu])), ?_, (fun c j h0 h1 h2 h3 h4 => (zxcj h0 ((p134bbbfr c j (by omega) (by omega) (by omega)).trans ((fr c j (by omega) (by omega) (by omega) (by omega) (by omega)).trans rfl))))⟩
              · intro i hi
                by_cases e : i = m
                · subst e
                  exact (zxu (by omega) p134bbhl1).trans f133
                · exact (zxu (by omega) ((p134bbbfr (k + 7) _ (by omega) (by omega) (by omega)).trans rfl)).trans (hl i (by omega))
            · refine And.intro (zA_61 hS) (zrd (v := (q + 1)) rfl ?_)
              refine And.intro (zA_61 hS) ⟨_, (zWi (by omega)), ?_⟩
              refine hQ _ (((q + 1) + 1) : Int) ?_ ?_ (fun c j h0 h1 h2 h3 h4 h5 => (zxcj h0 (zxcj h0 ((p134bbbfr c j (by omega) (by omega) (by omega)).trans ((fr c j (by omega) (by omega) (by omega) (by omega) (by omega)).trans rfl))))) rfl (by omega)
              · first
                | exact zxe.trans (tXf_n (by omega)).symm
                | exact zxe.trans (tXf_a h0 hq (by omega) hn (by omega) (by omega)).symm
                | exact zxe.trans ((by omega : _ = ((q : Nat) : Int) + 1).trans (tXf_b h0 hq (by omega) hn (by omega) (by omega) (by omega) (by omega)).symm)
                | exact (zxcj (by omega) (zxcj (by omega) ((p134bbbfr 61 _ (by omega) (by omega) (by omega)).trans ((fr 61 _ (by omega) (by omega) (by omega) (by omega) (by omega)).trans rfl)))).trans (hf0.trans (tXf_q (c := c) (p := p) (m := 0) (q := p + 1) (by omega) rfl (by omega) (fun i h => absurd h (Nat.not_lt_zero i)) (by omega)).1.symm)
                | exact (zxcj (by omega) (zxcj (by omega) ((p134bbbfr 61 _ (by omega) (by omega) (by omega)).trans rfl))).trans (hf1.trans (tXf_q h0 (m := m + 1) rfl (by omega) (tXs_up hn g134) (by omega)).1.symm)
              · intro h9
                first
                | (exfalso; rw [tXf_n (by omega)] at h9; omega)
                | (exfalso; rw [tXf_a h0 hq (by omega) hn (by omega) (by omega)] at h9; omega)
                | (exfalso; rw [tXf_b h0 hq (by omega) hn (by omega) (by omega) (by omega) (by omega)] at h9; omega)
                | (have e := tXf_q (c := c) (p := p) (m := 0) (q := p + 1) (by omega) rfl (by omega) (fun i h => absurd h (Nat.not_lt_zero i)) (by omega)
                   rw [e.2.1, e.2.2]
                   exact ⟨zxe.trans (by omega), ((zxcj (by omega) (zxcj (by omega) ((p134bbbfr k _ (by omega) (by omega) (by omega)).trans ((fr k _ (by omega) (by omega) (by omega) (by omega) (by omega)).trans rfl)))).trans hcc).trans (by omega), zxu (by omega) p34hs, ((zxcj (by omega) (zxcj (by omega) ((p134bbbfr (k + 6) _ (by omega) (by omega) (by omega)).trans ((fr (k + 6) _ (by omega) (by omega) (by omega) (by omega) (by omega)).trans rfl)))).trans hm0).trans (by omega), (fun i h => absurd h (Nat.not_lt_zero i))⟩)
                | (have e := tXf_q h0 (m := m + 1) rfl (by omega) (tXs_up hn g134) (by omega)
                   rw [e.2.1, e.2.2]
                   refine ⟨zxe.trans (by omega), (zxu (by omega) (zxu (by omega) p134hc1)).trans (by omega), (zxu (by omega) (zxu (by omega) ((p134bbbfr (k + 5) _ (by omega) (by omega) (by omega)).trans rfl))).trans hs5, (zxu (by omega) (zxu (by omega) p134bhm1)).trans (by omega), fun i hi => ?_⟩
                   by_cases e : i = m
                   · subst e
                     exact (zxu (by omega) (zxu (by omega) p134bbhl1)).trans f133
                   · exact (zxu (by omega) (zxu (by omega) ((p134bbbfr (k + 7) _ (by omega) (by omega) (by omega)).trans rfl))).trans (hl i (by omega)))
        · refine And.intro (zA_61 hS) (zrd (v := q) hpl ?_)
          refine And.intro (zA_61 hS) ⟨_, (zWi (by omega)), ?_⟩
          refine And.intro (zA_61 hS) ⟨_, sn_K_peek.up (by decide), ?_⟩
          refine ⟨c, n, (q + 1), rfl, hS, hR, htx, (by first | exact (zRD_fr hX (fun c j h => (zxcj (by omega) ((fr c j (by omega) (by omega) (by omega) (by omega) (by omega)).trans rfl)))) | (clear hQ; grind [xu])), (by first | exact hc | (clear hQ; grind [xu])), rfl, (by omega), ?_⟩
          intro v28_97o p28_97hv p28_97bhv2
          refine And.intro ⟨(by omega), (zRb rfl)⟩ ⟨fun h33_97 => ?_, fun h33_97 => ?_⟩
          · refine And.intro (zA_61 hS) (zrd (v := (-1)) hf1 ?_)
            refine And.intro ⟨(zRb rfl), (zRb rfl)⟩ (zbf rfl ?_)
            refine And.intro (zA_61 hS) (zrd (v := (q + 1)) rfl ?_)
            refine And.intro (zA_61 hS) (zrd (v := n) ((fr 61 1 (by omega) (by omega) (by omega) (by omega) (by omega)).trans x1) ?_)
            refine And.intro ⟨(by omega), (by omega)⟩ ⟨fun h116 => ?_, fun h116 => ?_⟩
            · refine And.intro (zA_61 hS) (zrd (v := (q + 1)) rfl ?_)
              refine And.intro (zA_61 hS) (Exists.intro _ (And.intro (zinl_ok (zT9_2 1)) (And.intro rfl ?_)))
              refine And.intro (zA_61 hS) (zrd (v := (-1)) hf1 ?_)
              refine And.intro ⟨(zRb rfl), (zRb rfl)⟩ (zbf rfl ?_)
              refine And.intro (zA_61 hS) ⟨_, (zWi (by omega)), ?_⟩
              refine And.intro ⟨(by omega), (zRb rfl)⟩ ⟨(fun h42 => False.elim (by omega)), fun h42 => ?_⟩
              refine And.intro (zA_61 hS) (zrd (v := (q + 1)) rfl ?_)
              refine And.intro ⟨(by omega), (zRb rfl)⟩ ⟨fun h50 => ?_, (fun h50 => False.elim (by omega))⟩
              refine hQ _ ((q + 1) : Int) ?_ ?_ (fun c j h0 h1 h2 h3 h4 h5 => (zxcj h1 (zxcj h0 ((fr c j (by omega) (by omega) (by omega) (by omega) (by omega)).trans rfl)))) rfl (by omega)
              · first
                | exact zxe.trans (tXf_n (by omega)).symm
                | exact zxe.trans (tXf_a h0 hq (by omega) hn (by omega) (by omega)).symm
                | exact zxe.trans ((by omega : _ = ((q : Nat) : Int) + 1).trans (tXf_b h0 hq (by omega) hn (by omega) (by omega) (by omega) (by omega)).symm)
                | exact (zxcj (by omega) (zxcj (by omega) ((fr 61 _ (by omega) (by omega) (by omega) (by omega) (by omega)).trans rfl))).trans (hf0.trans (tXf_q (c := c) (p := p) (m := 0) (q := p + 1) (by omega) rfl (by omega) (fun i h => absurd h (Nat.not_lt_zero i)) (by omega)).1.symm)
                | exact (zxcj (by omega) (zxcj (by omega) rfl)).trans (hf1.trans (tXf_q h0 (m := m + 1) rfl (by omega) (tXs_up hn g134) (by omega)).1.symm)
              · intro h9
                first
                | (exfalso; rw [tXf_n (by omega)] at h9; omega)
                | (exfalso; rw [tXf_a h0 hq (by omega) hn (by omega) (by omega)] at h9; omega)
                | (exfalso; rw [tXf_b h0 hq (by omega) hn (by omega) (by omega) (by omega) (by omega)] at h9; omega)
                | (have e := tXf_q (c := c) (p := p) (m := 0) (q := p + 1) (by omega) rfl (by omega) (fun i h => absurd h (Nat.not_lt_zero i)) (by omega)
                   rw [e.2.1, e.2.2]
                   exact ⟨zxe.trans (by omega), ((zxcj (by omega) (zxcj (by omega) ((fr k _ (by omega) (by omega) (by omega) (by omega) (by omega)).trans rfl))).trans hcc).trans (by omega), zxu (by omega) p34hs, ((zxcj (by omega) (zxcj (by omega) ((fr (k + 6) _ (by omega) (by omega) (by omega) (by omega) (by omega)).trans rfl))).trans hm0).trans (by omega), (fun i h => absurd h (Nat.not_lt_zero i))⟩)
                | (have e := tXf_q h0 (m := m + 1) rfl (by omega) (tXs_up hn g134) (by omega)
                   rw [e.2.1, e.2.2]
                   refine ⟨zxe.trans (by omega), (zxu (by omega) (zxu (by omega) p134hc1)).trans (by omega), (zxu (by omega) (zxu (by omega) rfl)).trans hs5, (zxu (by omega) (zxu (by omega) p134bhm1)).trans (by omega), fun i hi => ?_⟩
                   by_cases e : i = m
                   · subst e
                     exact (zxu (by omega) (zxu (by omega) p134bbhl1)).trans f133
                   · exact (zxu (by omega) (zxu (by omega) rfl)).trans (hl i (by omega)))
            · refine And.intro (zA_61 hS) (zrdR (v := some k) hob ?_)
              refine And.intro (zA_61 hS) (zrdR (v := some 42) htx ?_)
              refine And.intro (zA_61 hS) (zrd (v := (q + 1)) rfl ?_)
              refine And.intro (zP_42 hS (by omega) (by omega)) (fun v133 e133 r133 => ?_)
              have f133 : v133 = tLt c p m := (by first | exact (e133.trans ((zxcj (by omega) ((fr 42 _ (by omega) (by omega) (by omega) (by omega) (by omega)).trans rfl)).trans ((congrArg (I 42) (by omega)).trans (x2 q (by omega))))).trans (let_.2 (by omega)).symm | exact (e133.trans ((zxcj (by omega) ((fr 42 _ (by omega) (by omega) (by omega) (by omega) (by omega)).trans rfl)).trans ((congrArg (I 42) (by omega)).trans (x2 (q + 1) (by omega))))).trans (let_.1 (by omega)).symm)
              have f133b : 10 ≤ tLt c p m ∧ tLt c p m ≤ 126 := (by have e := let_; omega)
              refine And.intro (zDX hD 0 rfl) ⟨_, sn_O_adl.up (by decide), ?_⟩
              refine ⟨k, a9, (a_ : Int), a_, (w_ : Int), w_, (cc + m), (v133 : Int), m, rfl, hS, hR, hD, (zxu (by omega) ((fr k 0 (by omega) (by omega) (by omega) (by omega) (by omega)).trans ho0)), (by omega), (by omega), (by omega), (zxu (by omega) hc1), (by omega), (by omega), (by clear hQ; grind [xu]), (by omega), ?_⟩
              intro I134o p134hc1 p134bhm1 p134bbhl1 p134bbbfr
              have g134 : ¬ tXs c p m := (tXs_n hq (by omega) (by omega) (by omega) (by omega))
              have g134b : tPo c p (m + 1) ≤ n ∧ p + 2 + m ≤ tPo c p (m + 1) := (by by_cases e : c q = 92; (rw [pos.1 e]; omega); (rw [pos.2 e]; omega))
              refine And.intro (zA_61 hS) (zrd (v := (q + 1)) ((p134bbbfr 61 2 (by omega) (by omega) (by omega)).trans rfl) ?_)
              refine And.intro (zA_61 hS) ⟨_, (zWi (by omega)), ?_⟩
              refine And.intro ⟨(by omega), (zRb rfl)⟩ ⟨(fun h42 => False.elim (by omega)), fun h42 => ?_⟩
              refine And.intro (zA_61 hS) (zrd (v := (-1)) ((p134bbbfr 61 3 (by omega) (by omega) (by omega)).trans hf1) ?_)
              refine And.intro ⟨(zRb rfl), (zRb rfl)⟩ (zbf rfl ?_)
              refine And.intro (zA_61 hS) ⟨_, sn_K_peek.up (by decide), ?_⟩
              refine ⟨c, n, (tPo c p (m + 1)), rfl, hS, hR, htx, (by first | exact (zRD_fr hX (fun c j h => (zxcj (by omega) ((p134bbbfr c j (by omega) (by omega) (by omega)).trans (zxcj (by omega) ((fr c j (by omega) (by omega) (by omega) (by omega) (by omega)).trans rfl)))))) | (clear hQ; grind [xu])), (by first | exact hc | (clear hQ; grind [xu])), (Eq.trans (b := (((q + 1) + 1) : Int)) rfl (by omega)), (by omega), ?_⟩
              intro v54o p54hv p54bhv2
              refine And.intro ⟨(by omega), (zRb rfl)⟩ ⟨fun h59 => ?_, fun h59 => ?_⟩
              · refine ⟨((41 - (m + 1)), 0, 0), zlt6 (by omega), [some (zvr (61)), some (zvi (a_)), some (zvi (w_)), some (zvi ((m + 1)))], ⟨rfl, rfl, rfl, rfl, rfl⟩, (m + 1), (tPo c p (m + 1)), rfl, rfl, rfl, rfl, rfl, rfl, h0, (by omega), rfl, (by omega), (by omega), (tXs_up hn g134), (zxe.trans (by omega)), (Eq.trans (b := ((-1) : Int)) ((p134bbbfr 61 3 (by omega) (by omega) (by omega)).trans hf1) (by omega)), (Eq.trans (b := (((cc + m) + 1) : Int)) (zxu (by omega) p134hc1) (by omega)), ((zxu (by omega) ((p134bbbfr (k + 5) _ (by omega) (by omega) (by omega)).trans (zxu (by omega) rfl))).trans hs5), (by first | exact hm1 | (clear hQ; grind [xu])), ?_, (fun c j h0 h1 h2 h3 h4 => (zxcj h0 ((p134bbbfr c j (by omega) (by omega) (by omega)).trans (zxcj h0 ((fr c j (by omega) (by omega) (by omega) (by omega) (by omega)).trans rfl)))))⟩
                · intro i hi
                  by_cases e : i = m
                  · subst e
                    exact (zxu (by omega) p134bbhl1).trans f133
                  · exact (zxu (by omega) ((p134bbbfr (k + 7) _ (by omega) (by omega) (by omega)).trans (zxu (by omega) rfl))).trans (hl i (by omega))
              · refine And.intro (zA_61 hS) (zrd (v := ((q + 1) + 1)) rfl ?_)
                refine And.intro (zA_61 hS) ⟨_, (zWi (by omega)), ?_⟩
                refine hQ _ ((((q + 1) + 1) + 1) : Int) ?_ ?_ (fun c j h0 h1 h2 h3 h4 h5 => (zxcj h0 (zxcj h0 ((p134bbbfr c j (by omega) (by omega) (by omega)).trans (zxcj h0 ((fr c j (by omega) (by omega) (by omega) (by omega) (by omega)).trans rfl)))))) rfl (by omega)
                · first
                  | exact zxe.trans (tXf_n (by omega)).symm
                  | exact zxe.trans (tXf_a h0 hq (by omega) hn (by omega) (by omega)).symm
                  | exact zxe.trans ((by omega : _ = ((q : Nat) : Int) + 1).trans (tXf_b h0 hq (by omega) hn (by omega) (by omega) (by omega) (by omega)).symm)
                  | exact (zxcj (by omega) (zxcj (by omega) ((p134bbbfr 61 _ (by omega) (by omega) (by omega)).trans (zxcj (by omega) ((fr 61 _ (by omega) (by omega) (by omega) (by omega) (by omega)).trans rfl))))).trans (hf0.trans (tXf_q (c := c) (p := p) (m := 0) (q := p + 1) (by omega) rfl (by omega) (fun i h => absurd h (Nat.not_lt_zero i)) (by omega)).1.symm)
                  | exact (zxcj (by omega) (zxcj (by omega) ((p134bbbfr 61 _ (by omega) (by omega) (by omega)).trans (zxcj (by omega) rfl)))).trans (hf1.trans (tXf_q h0 (m := m + 1) rfl (by omega) (tXs_up hn g134) (by omega)).1.symm)
                · intro h9
                  first
                  | (exfalso; rw [tXf_n (by omega)] at h9; omega)
                  | (exfalso; rw [tXf_a h0 hq (by omega) hn (by omega) (by omega)] at h9; omega)
                  | (exfalso; rw [tXf_b h0 hq (by omega) hn (by omega) (by omega) (by omega) (by omega)] at h9; omega)
                  | (have e := tXf_q (c := c) (p := p) (m := 0) (q := p + 1) (by omega) rfl (by omega) (fun i h => absurd h (Nat.not_lt_zero i)) (by omega)
                     rw [e.2.1, e.2.2]
                     exact ⟨zxe.trans (by omega), ((zxcj (by omega) (zxcj (by omega) ((p134bbbfr k _ (by omega) (by omega) (by omega)).trans (zxcj (by omega) ((fr k _ (by omega) (by omega) (by omega) (by omega) (by omega)).trans rfl))))).trans hcc).trans (by omega), zxu (by omega) p34hs, ((zxcj (by omega) (zxcj (by omega) ((p134bbbfr (k + 6) _ (by omega) (by omega) (by omega)).trans (zxcj (by omega) ((fr (k + 6) _ (by omega) (by omega) (by omega) (by omega) (by omega)).trans rfl))))).trans hm0).trans (by omega), (fun i h => absurd h (Nat.not_lt_zero i))⟩)
                  | (have e := tXf_q h0 (m := m + 1) rfl (by omega) (tXs_up hn g134) (by omega)
                     rw [e.2.1, e.2.2]
                     refine ⟨zxe.trans (by omega), (zxu (by omega) (zxu (by omega) p134hc1)).trans (by omega), (zxu (by omega) (zxu (by omega) ((p134bbbfr (k + 5) _ (by omega) (by omega) (by omega)).trans (zxu (by omega) rfl)))).trans hs5, (zxu (by omega) (zxu (by omega) p134bhm1)).trans (by omega), fun i hi => ?_⟩
                     by_cases e : i = m
                     · subst e
                       exact (zxu (by omega) (zxu (by omega) p134bbhl1)).trans f133
                     · exact (zxu (by omega) (zxu (by omega) ((p134bbbfr (k + 7) _ (by omega) (by omega) (by omega)).trans (zxu (by omega) rfl)))).trans (hl i (by omega)))
          · refine And.intro (zA_61 hS) ⟨_, sn_K_peek.up (by decide), ?_⟩
            refine ⟨c, n, (q + 1), rfl, hS, hR, htx, (by first | exact (zRD_fr hX (fun c j h => (zxcj (by omega) ((fr c j (by omega) (by omega) (by omega) (by omega) (by omega)).trans rfl)))) | (clear hQ; grind [xu])), (by first | exact hc | (clear hQ; grind [xu])), rfl, (by omega), ?_⟩
            intro v37_97o p37_97hv p37_97bhv2
            refine And.intro ⟨(by omega), (zRb rfl)⟩ ⟨fun h42_97 => ?_, fun h42_97 => ?_⟩
            · refine And.intro (zA_61 hS) (zrd (v := (-1)) hf1 ?_)
              refine And.intro ⟨(zRb rfl), (zRb rfl)⟩ (zbf rfl ?_)
              refine And.intro (zA_61 hS) (zrd (v := (q + 1)) rfl ?_)
              refine And.intro (zA_61 hS) (zrd (v := n) ((fr 61 1 (by omega) (by omega) (by omega) (by omega) (by omega)).trans x1) ?_)
              refine And.intro ⟨(by omega), (by omega)⟩ ⟨fun h116 => ?_, fun h116 => ?_⟩
              · refine And.intro (zA_61 hS) (zrd (v := (q + 1)) rfl ?_)
                refine And.intro (zA_61 hS) (Exists.intro _ (And.intro (zinl_ok (zT9_2 1)) (And.intro rfl ?_)))
                refine And.intro (zA_61 hS) (zrd (v := (-1)) hf1 ?_)
                refine And.intro ⟨(zRb rfl), (zRb rfl)⟩ (zbf rfl ?_)
                refine And.intro (zA_61 hS) ⟨_, (zWi (by omega)), ?_⟩
                refine And.intro ⟨(by omega), (zRb rfl)⟩ ⟨(fun h42 => False.elim (by omega)), fun h42 => ?_⟩
                refine And.intro (zA_61 hS) (zrd (v := (q + 1)) rfl ?_)
                refine And.intro ⟨(by omega), (zRb rfl)⟩ ⟨fun h50 => ?_, (fun h50 => False.elim (by omega))⟩
                refine hQ _ ((q + 1) : Int) ?_ ?_ (fun c j h0 h1 h2 h3 h4 h5 => (zxcj h1 (zxcj h0 ((fr c j (by omega) (by omega) (by omega) (by omega) (by omega)).trans rfl)))) rfl (by omega)
                · first
                  | exact zxe.trans (tXf_n (by omega)).symm
                  | exact zxe.trans (tXf_a h0 hq (by omega) hn (by omega) (by omega)).symm
                  | exact zxe.trans ((by omega : _ = ((q : Nat) : Int) + 1).trans (tXf_b h0 hq (by omega) hn (by omega) (by omega) (by omega) (by omega)).symm)
                  | exact (zxcj (by omega) (zxcj (by omega) ((fr 61 _ (by omega) (by omega) (by omega) (by omega) (by omega)).trans rfl))).trans (hf0.trans (tXf_q (c := c) (p := p) (m := 0) (q := p + 1) (by omega) rfl (by omega) (fun i h => absurd h (Nat.not_lt_zero i)) (by omega)).1.symm)
                  | exact (zxcj (by omega) (zxcj (by omega) rfl)).trans (hf1.trans (tXf_q h0 (m := m + 1) rfl (by omega) (tXs_up hn g134) (by omega)).1.symm)
                · intro h9
                  first
                  | (exfalso; rw [tXf_n (by omega)] at h9; omega)
                  | (exfalso; rw [tXf_a h0 hq (by omega) hn (by omega) (by omega)] at h9; omega)
                  | (exfalso; rw [tXf_b h0 hq (by omega) hn (by omega) (by omega) (by omega) (by omega)] at h9; omega)
                  | (have e := tXf_q (c := c) (p := p) (m := 0) (q := p + 1) (by omega) rfl (by omega) (fun i h => absurd h (Nat.not_lt_zero i)) (by omega)
                     rw [e.2.1, e.2.2]
                     exact ⟨zxe.trans (by omega), ((zxcj (by omega) (zxcj (by omega) ((fr k _ (by omega) (by omega) (by omega) (by omega) (by omega)).trans rfl))).trans hcc).trans (by omega), zxu (by omega) p34hs, ((zxcj (by omega) (zxcj (by omega) ((fr (k + 6) _ (by omega) (by omega) (by omega) (by omega) (by omega)).trans rfl))).trans hm0).trans (by omega), (fun i h => absurd h (Nat.not_lt_zero i))⟩)
                  | (have e := tXf_q h0 (m := m + 1) rfl (by omega) (tXs_up hn g134) (by omega)
                     rw [e.2.1, e.2.2]
                     refine ⟨zxe.trans (by omega), (zxu (by omega) (zxu (by omega) p134hc1)).trans (by omega), (zxu (by omega) (zxu (by omega) rfl)).trans hs5, (zxu (by omega) (zxu (by omega) p134bhm1)).trans (by omega), fun i hi => ?_⟩
                     by_cases e : i = m
                     · subst e
                       exact (zxu (by omega) (zxu (by omega) p134bbhl1)).trans f133
                     · exact (zxu (by omega) (zxu (by omega) rfl)).trans (hl i (by omega)))
              · refine And.intro (zA_61 hS) (zrdR (v := some k) hob ?_)
                refine And.intro (zA_61 hS) (zrdR (v := some 42) htx ?_)
                refine And.intro (zA_61 hS) (zrd (v := (q + 1)) rfl ?_)
                refine And.intro (zP_42 hS (by omega) (by omega)) (fun v133 e133 r133 => ?_)
                have f133 : v133 = tLt c p m := (by first | exact (e133.trans ((zxcj (by omega) ((fr 42 _ (by omega) (by omega) (by omega) (by omega) (by omega)).trans rfl)).trans ((congrArg (I 42) (by omega)).trans (x2 q (by omega))))).trans (let_.2 (by omega)).symm | exact (e133.trans ((zxcj (by omega) ((fr 42 _ (by omega) (by omega) (by omega) (by omega) (by omega)).trans rfl)).trans ((congrArg (I 42) (by omega)).trans (x2 (q + 1) (by omega))))).trans (let_.1 (by omega)).symm)
                have f133b : 10 ≤ tLt c p m ∧ tLt c p m ≤ 126 := (by have e := let_; omega)
                refine And.intro (zDX hD 0 rfl) ⟨_, sn_O_adl.up (by decide), ?_⟩
                refine ⟨k, a9, (a_ : Int), a_, (w_ : Int), w_, (cc + m), (v133 : Int), m, rfl, hS, hR, hD, (zxu (by omega) ((fr k 0 (by omega) (by omega) (by omega) (by omega) (by omega)).trans ho0)), (by omega), (by omega), (by omega), (zxu (by omega) hc1), (by omega), (by omega), (by clear hQ; grind [xu]), (by omega), ?_⟩
                intro I134o p134hc1 p134bhm1 p134bbhl1 p134bbbfr
                have g134 : ¬ tXs c p m := (tXs_n hq (by omega) (by omega) (by omega) (by omega))
                have g134b : tPo c p (m + 1) ≤ n ∧ p + 2 + m ≤ tPo c p (m + 1) := (by by_cases e : c q = 92; (rw [pos.1 e]; omega); (rw [pos.2 e]; omega))
                refine And.intro (zA_61 hS) (zrd (v := (q + 1)) ((p134bbbfr 61 2 (by omega) (by omega) (by omega)).trans rfl) ?_)
                refine And.intro (zA_61 hS) ⟨_, (zWi (by omega)), ?_⟩
                refine And.intro ⟨(by omega), (zRb rfl)⟩ ⟨(fun h42 => False.elim (by omega)), fun h42 => ?_⟩
                refine And.intro (zA_61 hS) (zrd (v := (-1)) ((p134bbbfr 61 3 (by omega) (by omega) (by omega)).trans hf1) ?_)
                refine And.intro ⟨(zRb rfl), (zRb rfl)⟩ (zbf rfl ?_)
                refine And.intro (zA_61 hS) ⟨_, sn_K_peek.up (by decide), ?_⟩
                refine ⟨c, n, (tPo c p (m + 1)), rfl, hS, hR, htx, (by first | exact (zRD_fr hX (fun c j h => (zxcj (by omega) ((p134bbbfr c j (by omega) (by omega) (by omega)).trans (zxcj (by omega) ((fr c j (by omega) (by omega) (by omega) (by omega) (by omega)).trans rfl)))))) | (clear hQ; grind [xu])), (by first | exact hc | (clear hQ; grind [xu])), (Eq.trans (b := (((q + 1) + 1) : Int)) rfl (by omega)), (by omega), ?_⟩
                intro v54o p54hv p54bhv2
                refine And.intro ⟨(by omega), (zRb rfl)⟩ ⟨fun h59 => ?_, fun h59 => ?_⟩
                · refine ⟨((41 - (m + 1)), 0, 0), zlt6 (by omega), [some (zvr (61)), some (zvi (a_)), some (zvi (w_)), some (zvi ((m + 1)))], ⟨rfl, rfl, rfl, rfl, rfl⟩, (m + 1), (tPo c p (m + 1)), rfl, rfl, rfl, rfl, rfl, rfl, h0, (by omega), rfl, (by omega), (by omega), (tXs_up hn g134), (zxe.trans (by omega)), (Eq.trans (b := ((-1) : Int)) ((p134bbbfr 61 3 (by omega) (by omega) (by omega)).trans hf1) (by omega)), (Eq.trans (b := (((cc + m) + 1) : Int)) (zxu (by omega) p134hc1) (by omega)), ((zxu (by omega) ((p134bbbfr (k + 5) _ (by omega) (by omega) (by omega)).trans (zxu (by omega) rfl))).trans hs5), (by first | exact hm1 | (clear hQ; grind [xu])), ?_, (fun c j h0 h1 h2 h3 h4 => (zxcj h0 ((p134bbbfr c j (by omega) (by omega) (by omega)).trans (zxcj h0 ((fr c j (by omega) (by omega) (by omega) (by omega) (by omega)).trans rfl)))))⟩
                  · intro i hi
                    by_cases e : i = m
                    · subst e
                      exact (zxu (by omega) p134bbhl1).trans f133
                    · exact (zxu (by omega) ((p134bbbfr (k + 7) _ (by omega) (by omega) (by omega)).trans (zxu (by omega) rfl))).trans (hl i (by omega))
                · refine And.intro (zA_61 hS) (zrd (v := ((q + 1) + 1)) rfl ?_)
                  refine And.intro (zA_61 hS) ⟨_, (zWi (by omega)), ?_⟩
                  refine hQ _ ((((q + 1) + 1) + 1) : Int) ?_ ?_ (fun c j h0 h1 h2 h3 h4 h5 => (zxcj h0 (zxcj h0 ((p134bbbfr c j (by omega) (by omega) (by omega)).trans (zxcj h0 ((fr c j (by omega) (by omega) (by omega) (by omega) (by omega)).trans rfl)))))) rfl (by omega)
                  · first
                    | exact zxe.trans (tXf_n (by omega)).symm
                    | exact zxe.trans (tXf_a h0 hq (by omega) hn (by omega) (by omega)).symm
                    | exact zxe.trans ((by omega : _ = ((q : Nat) : Int) + 1).trans (tXf_b h0 hq (by omega) hn (by omega) (by omega) (by omega) (by omega)).symm)
                    | exact (zxcj (by omega) (zxcj (by omega) ((p134bbbfr 61 _ (by omega) (by omega) (by omega)).trans (zxcj (by omega) ((fr 61 _ (by omega) (by omega) (by omega) (by omega) (by omega)).trans rfl))))).trans (hf0.trans (tXf_q (c := c) (p := p) (m := 0) (q := p + 1) (by omega) rfl (by omega) (fun i h => absurd h (Nat.not_lt_zero i)) (by omega)).1.symm)
                    | exact (zxcj (by omega) (zxcj (by omega) ((p134bbbfr 61 _ (by omega) (by omega) (by omega)).trans (zxcj (by omega) rfl)))).trans (hf1.trans (tXf_q h0 (m := m + 1) rfl (by omega) (tXs_up hn g134) (by omega)).1.symm)
                  · intro h9
                    first
                    | (exfalso; rw [tXf_n (by omega)] at h9; omega)
                    | (exfalso; rw [tXf_a h0 hq (by omega) hn (by omega) (by omega)] at h9; omega)
                    | (exfalso; rw [tXf_b h0 hq (by omega) hn (by omega) (by omega) (by omega) (by omega)] at h9; omega)
                    | (have e := tXf_q (c := c) (p := p) (m := 0) (q := p + 1) (by omega) rfl (by omega) (fun i h => absurd h (Nat.not_lt_zero i)) (by omega)
                       rw [e.2.1, e.2.2]
                       exact ⟨zxe.trans (by omega), ((zxcj (by omega) (zxcj (by omega) ((p134bbbfr k _ (by omega) (by omega) (by omega)).trans (zxcj (by omega) ((fr k _ (by omega) (by omega) (by omega) (by omega) (by omega)).trans rfl))))).trans hcc).trans (by omega), zxu (by omega) p34hs, ((zxcj (by omega) (zxcj (by omega) ((p134bbbfr (k + 6) _ (by omega) (by omega) (by omega)).trans (zxcj (by omega) ((fr (k + 6) _ (by omega) (by omega) (by omega) (by omega) (by omega)).trans rfl))))).trans hm0).trans (by omega), (fun i h => absurd h (Nat.not_lt_zero i))⟩)
                    | (have e := tXf_q h0 (m := m + 1) rfl (by omega) (tXs_up hn g134) (by omega)
                       rw [e.2.1, e.2.2]
                       refine ⟨zxe.trans (by omega), (zxu (by omega) (zxu (by omega) p134hc1)).trans (by omega), (zxu (by omega) (zxu (by omega) ((p134bbbfr (k + 5) _ (by omega) (by omega) (by omega)).trans (zxu (by omega) rfl)))).trans hs5, (zxu (by omega) (zxu (by omega) p134bhm1)).trans (by omega), fun i hi => ?_⟩
                       by_cases e : i = m
                       · subst e
                         exact (zxu (by omega) (zxu (by omega) p134bbhl1)).trans f133
                       · exact (zxu (by omega) (zxu (by omega) ((p134bbbfr (k + 7) _ (by omega) (by omega) (by omega)).trans (zxu (by omega) rfl)))).trans (hl i (by omega)))
            · refine And.intro (zA_61 hS) (zrd (v := (q + 1)) rfl ?_)
              refine And.intro (zA_61 hS) (Exists.intro _ (And.intro (zinl_ok (zT9_2 0)) (And.intro rfl ?_)))
              refine And.intro (zA_61 hS) (zrd (v := (-1)) hf1 ?_)
              refine And.intro ⟨(zRb rfl), (zRb rfl)⟩ (zbf rfl ?_)
              refine And.intro (zA_61 hS) ⟨_, (zWi (by omega)), ?_⟩
              refine And.intro (zA_61 hS) (zrd (v := (q + 1)) rfl ?_)
              refine And.intro ⟨(by omega), (zRb rfl)⟩ ⟨fun h105 => ?_, (fun h105 => False.elim (by omega))⟩
              refine And.intro (zA_61 hS) (zrd (v := (q + 1)) rfl ?_)
              refine And.intro (zA_61 hS) (Exists.intro _ (And.intro (zinl_ok (zT9_2 1)) (And.intro rfl ?_)))
              refine And.intro (zA_61 hS) (zrd (v := (q + 1)) rfl ?_)
              refine And.intro ⟨(by omega), (zRb rfl)⟩ ⟨fun h5_155 => ?_, (fun h5_155 => False.elim (by omega))⟩
              refine And.intro ⟨(by omega), (zRb rfl)⟩ ⟨(fun h42 => False.elim (by omega)), fun h42 => ?_⟩
              refine And.intro (zA_61 hS) (zrd (v := (q + 1)) rfl ?_)
              refine And.intro ⟨(by omega), (zRb rfl)⟩ ⟨fun h50 => ?_, (fun h50 => False.elim (by omega))⟩
              refine hQ _ ((q + 1) : Int) ?_ ?_ (fun c j h0 h1 h2 h3 h4 h5 => (zxcj h1 (zxcj h0 ((fr c j (by omega) (by omega) (by omega) (by omega) (by omega)).trans rfl)))) rfl (by omega)
              · first
                | exact zxe.trans (tXf_n (by omega)).symm
                | exact zxe.trans (tXf_a h0 hq (by omega) hn (by omega) (by omega)).symm
                | exact zxe.trans ((by omega : _ = ((q : Nat) : Int) + 1).trans (tXf_b h0 hq (by omega) hn (by omega) (by omega) (by omega) (by omega)).symm)
                | exact (zxcj (by omega) (zxcj (by omega) ((fr 61 _ (by omega) (by omega) (by omega) (by omega) (by omega)).trans rfl))).trans (hf0.trans (tXf_q (c := c) (p := p) (m := 0) (q := p + 1) (by omega) rfl (by omega) (fun i h => absurd h (Nat.not_lt_zero i)) (by omega)).1.symm)
                | exact (zxcj (by omega) (zxcj (by omega) rfl)).trans (hf1.trans (tXf_q h0 (m := m + 1) rfl (by omega) (tXs_up hn g134) (by omega)).1.symm)
              · intro h9
                first
                | (exfalso; rw [tXf_n (by omega)] at h9; omega)
                | (exfalso; rw [tXf_a h0 hq (by omega) hn (by omega) (by omega)] at h9; omega)
                | (exfalso; rw [tXf_b h0 hq (by omega) hn (by omega) (by omega) (by omega) (by omega)] at h9; omega)
                | (have e := tXf_q (c := c) (p := p) (m := 0) (q := p + 1) (by omega) rfl (by omega) (fun i h => absurd h (Nat.not_lt_zero i)) (by omega)
                   rw [e.2.1, e.2.2]
                   exact ⟨zxe.trans (by omega), ((zxcj (by omega) (zxcj (by omega) ((fr k _ (by omega) (by omega) (by omega) (by omega) (by omega)).trans rfl))).trans hcc).trans (by omega), zxu (by omega) p34hs, ((zxcj (by omega) (zxcj (by omega) ((fr (k + 6) _ (by omega) (by omega) (by omega) (by omega) (by omega)).trans rfl))).trans hm0).trans (by omega), (fun i h => absurd h (Nat.not_lt_zero i))⟩)
                | (have e := tXf_q h0 (m := m + 1) rfl (by omega) (tXs_up hn g134) (by omega)
                   rw [e.2.1, e.2.2]
                   refine ⟨zxe.trans (by omega), (zxu (by omega) (zxu (by omega) p134hc1)).trans (by omega), (zxu (by omega) (zxu (by omega) rfl)).trans hs5, (zxu (by omega) (zxu (by omega) p134bhm1)).trans (by omega), fun i hi => ?_⟩
                   by_cases e : i = m
                   · subst e
                     exact (zxu (by omega) (zxu (by omega) p134bbhl1)).trans f133
                   · exact (zxu (by omega) (zxu (by omega) rfl)).trans (hl i (by omega)))
      · refine And.intro (zA_61 hS) (zrd (v := q) hpl ?_)
        refine And.intro (zA_61 hS) (Exists.intro _ (And.intro (zinl_ok (zT9_2 1)) (And.intro rfl ?_)))
        refine And.intro (zA_61 hS) (zrd (v := (-1)) hf1 ?_)
        refine And.intro ⟨(zRb rfl), (zRb rfl)⟩ (zbf rfl ?_)
        refine And.intro (zA_61 hS) ⟨_, (zWi (by omega)), ?_⟩
        refine And.intro (zA_61 hS) (Exists.intro _ (And.intro (zinl_ok (zT9_26 1)) (And.intro rfl ?_)))
        refine And.intro (zA_61 hS) (zrd (v := q) rfl ?_)
        refine And.intro ⟨(by omega), (zRb rfl)⟩ ⟨fun h5_97 => ?_, (fun h5_97 => False.elim (by omega))⟩
        refine And.intro (zA_61 hS) (zrd (v := q) rfl ?_)
        refine And.intro ⟨(by omega), (zRb rfl)⟩ ⟨fun h105 => ?_, (fun h105 => False.elim (by omega))⟩
        refine And.intro (zA_61 hS) (zrd (v := q) hpl ?_)
        refine And.intro (zA_61 hS) (Exists.intro _ (And.intro (zinl_ok (zT9_2 1)) (And.intro rfl ?_)))
        refine And.intro (zA_61 hS) (zrd (v := q) rfl ?_)
        refine And.intro ⟨(by omega), (zRb rfl)⟩ ⟨fun h5_155 => ?_, (fun h5_155 => False.elim (by omega))⟩
        refine And.intro ⟨(by omega), (zRb rfl)⟩ ⟨(fun h42 => False.elim (by omega)), fun h42 => ?_⟩
        refine And.intro (zA_61 hS) (zrd (v := q) rfl ?_)
        refine And.intro ⟨(by omega), (zRb rfl)⟩ ⟨fun h50 => ?_, (fun h50 => False.elim (by omega))⟩
        refine hQ _ (q : Int) ?_ ?_ (fun c j h0 h1 h2 h3 h4 h5 => (zxcj h1 ((fr c j (by omega) (by omega) (by omega) (by omega) (by omega)).trans rfl))) hpl (by omega)
        · first
          | exact zxe.trans (tXf_n (by omega)).symm
          | exact zxe.trans (tXf_a h0 hq (by omega) hn (by omega) (by omega)).symm
          | exact zxe.trans ((by omega : _ = ((q : Nat) : Int) + 1).trans (tXf_b h0 hq (by omega) hn (by omega) (by omega) (by omega) (by omega)).symm)
          | exact (zxcj (by omega) ((fr 61 _ (by omega) (by omega) (by omega) (by omega) (by omega)).trans rfl)).trans (hf0.trans (tXf_q (c := c) (p := p) (m := 0) (q := p + 1) (by omega) rfl (by omega) (fun i h => absurd h (Nat.not_lt_zero i)) (by omega)).1.symm)
          | exact (zxcj (by omega) rfl).trans (hf1.trans (tXf_q h0 (m := m + 1) rfl (by omega) (tXs_up hn g134) (by omega)).1.symm)
        · intro h9
          first
          | (exfalso; rw [tXf_n (by omega)] at h9; omega)
          | (exfalso; rw [tXf_a h0 hq (by omega) hn (by omega) (by omega)] at h9; omega)
          | (exfalso; rw [tXf_b h0 hq (by omega) hn (by omega) (by omega) (by omega) (by omega)] at h9; omega)
          | (have e := tXf_q (c := c) (p := p) (m := 0) (q := p + 1) (by omega) rfl (by omega) (fun i h => absurd h (Nat.not_lt_zero i)) (by omega)
             rw [e.2.1, e.2.2]
             exact ⟨zxe.trans (by omega), ((zxcj (by omega) ((fr k _ (by omega) (by omega) (by omega) (by omega) (by omega)).trans rfl)).trans hcc).trans (by omega), zxu (by omega) p34hs, ((zxcj (by omega) ((fr (k + 6) _ (by omega) (by omega) (by omega) (by omega) (by omega)).trans rfl)).trans hm0).trans (by omega), (fun i h => absurd h (Nat.not_lt_zero i))⟩)
          | (have e := tXf_q h0 (m := m + 1) rfl (by omega) (tXs_up hn g134) (by omega)
             rw [e.2.1, e.2.2]
             refine ⟨zxe.trans (by omega), (zxu (by omega) (zxu (by omega) p134hc1)).trans (by omega), (zxu (by omega) rfl).trans hs5, (zxu (by omega) (zxu (by omega) p134bhm1)).trans (by omega), fun i hi => ?_⟩
             by_cases e : i = m
             · subst e
               exact (zxu (by omega) (zxu (by omega) p134bbhl1)).trans f133
             · exact (zxu (by omega) rfl).trans (hl i (by omega))))
