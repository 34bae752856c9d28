/-! kb -/
def T_K_lst : ZT := fun args I L R S Q => ∃ (f : Int), args = [zvi f] ∧ (r32 f) ∧ ∀ (v : Int), (v = tLo f) → (-1000000000 ≤ v ∧ v ≤ 1) → Q (some (zvl (v))) I L R S
theorem sn_K_lst : ZSnd 1 9 12 T_K_lst := ZSnd.of (zT9_12 0) (by
  rintro args I L R S Q hz ⟨f, rfl, hr, hQ⟩
  refine And.intro rfl ?_
  refine And.intro (by omega) (And.intro (fun h1 => ?_) (fun h1n0 => (And.intro (fun h1 => ?_) (fun h1n1 => (And.intro (fun h1 => ?_) (fun h1n2 => (And.intro (fun h1 => ?_) (fun h1n3 => ?_))))))))
  · refine hQ _ (by unfold tLo; (repeat' split) <;> omega) (by omega)
  · refine hQ _ (by unfold tLo; (repeat' split) <;> omega) (by omega)
  · refine hQ _ (by unfold tLo; (repeat' split) <;> omega) (by omega)
  · refine hQ _ (by unfold tLo; (repeat' split) <;> omega) (by omega)
  · refine hQ _ (by unfold tLo; (repeat' split) <;> omega) (by omega))
def T_K_grt : ZT := fun args I L R S Q => ∃ (f : Int), args = [zvi f] ∧ (r32 f) ∧ ∀ (v : Int), (v = tHi f) → (3 ≤ v ∧ v ≤ 1000000000) → Q (some (zvl (v))) I L R S
theorem sn_K_grt : ZSnd 1 9 4 T_K_grt := ZSnd.of (zT9_4 0) (by
  rintro args I L R S Q hz ⟨f, rfl, hr, hQ⟩
  refine And.intro rfl ?_
  refine And.intro (by omega) (And.intro (fun h1 => ?_) (fun h1n0 => (And.intro (fun h1 => ?_) (fun h1n1 => (And.intro (fun h1 => ?_) (fun h1n2 => (And.intro (fun h1 => ?_) (fun h1n3 => ?_))))))))
  · refine hQ _ (by unfold tHi; (repeat' split) <;> omega) (by omega)
  · refine hQ _ (by unfold tHi; (repeat' split) <;> omega) (by omega)
  · refine hQ _ (by unfold tHi; (repeat' split) <;> omega) (by omega)
  · refine hQ _ (by unfold tHi; (repeat' split) <;> omega) (by omega)
  · refine hQ _ (by unfold tHi; (repeat' split) <;> omega) (by omega))
def T_O_set : ZT := fun args I L R S Q => ∃ (k : Nat) (a9 : Int) (j : Int) (j_ : Nat) (w : Int) (w_ : Nat) (v : Int), args = [zvr k, zvi j, zvi w, zvl v] ∧ (zSh S) ∧ (zRs R) ∧ (zDy zT2 zF2 k R S) ∧ (I k 0 = a9) ∧ (0 ≤ a9 ∧ a9 ≤ 200) ∧ (j = j_ ∧ j_ < a9) ∧ (w = w_ ∧ w_ < 5) ∧ (r64 v) ∧ ∀ (L' : ZI), (L' (k + 4) (5 * j_ + w_) = v) → (∀ c j : Nat, ¬ (c = k + 4 ∧ j = 5 * j_ + w_) → L' c j = L c j) → Q none I L' R S
theorem sn_O_set : ZSnd 2 2 23 T_O_set := ZSnd.of (zT2_23 1) (by
  rintro args I L R S Q hz ⟨k, a9, j, j_, w, w_, v, rfl, hS, hR, hD, ho0, ha9, hj, hw, hv, hQ⟩
  have hk40 := hD.1
  refine And.intro rfl ?_
  refine And.intro (zDX hD 0 rfl) (Exists.intro _ (And.intro (zinl_ok (zT2_14 0)) (And.intro rfl ?_)))
  refine And.intro (by omega) ⟨(fun h1_2 => False.elim (by omega)), fun h1_2 => ?_⟩
  refine And.intro (zDX hD 0 rfl) (zrd (v := a9) ho0 ?_)
  refine And.intro ⟨(by omega), (by omega)⟩ ⟨(fun h9_2 => False.elim (by omega)), fun h9_2 => ?_⟩
  refine And.intro (Or.inr rfl) ?_
  refine And.intro (zRb rfl) (zbf rfl ?_)
  refine And.intro (by omega) ⟨(fun h9 => False.elim (by omega)), fun h9 => ?_⟩
  refine And.intro ⟨(by omega), (zRb rfl)⟩ ⟨(fun h14 => False.elim (by omega)), fun h14 => ?_⟩
  refine And.intro (zDX hD 0 rfl) (zrdR (v := some (k + 4)) (zDR hD 3 rfl) ?_)
  refine And.intro ⟨(by show 40 ≤ _; omega), (zDP hD 4 rfl rfl (by omega) (by omega))⟩ ⟨_, zW6i (by omega), ?_⟩
  refine hQ _ (zxe' (by omega)) (fun c j h0 => zxcj (by omega) rfl))
def T_K_num : ZT := fun args I L R S Q => ∃ (c : Nat → Int) (n : Nat) (p : Nat) (k : Nat) (a9 : Int) (a : Int) (a_ : Nat) (f : Int) (w : Int) (w_ : Nat), args = [zvr 61, zvi a, zvi f, zvi w] ∧ (zSh S) ∧ (zRs R) ∧ (zSt I L) ∧ (R 61 0 = some 42) ∧ (zRD c n I) ∧ (tOk c n) ∧ (I 61 2 = p) ∧ (p ≤ 5000) ∧ (R 61 7 = some k) ∧ (zDy zT2 zF2 k R S) ∧ (43 ≤ k ∧ k ≤ 52) ∧ (I k 0 = a9) ∧ (0 ≤ a9 ∧ a9 ≤ 200) ∧ (a = a_ ∧ a_ < a9) ∧ (0 ≤ f ∧ f ≤ 126) ∧ (w = w_ ∧ w_ < 5) ∧ (I 61 3 = -1) ∧ ∀ (I' : ZI) (L' : ZI), (I' 61 3 = (tNf c n p (tLen f) (tLo f) (tHi f))) → ((tNf c n p (tLen f) (tLo f) (tHi f)) = -1 → I' 61 2 = tNe c n p (tLen f) ∧ (f = 86 → I' 61 5 = tNv c n p (tLen f)) ∧ (f ≠ 86 → L' (k + 4) (5 * a_ + w_) = tNv c n p (tLen f) ∧ I' 61 5 = I 61 5)) → (∀ c j : Nat, ¬ (c = 61 ∧ j = 2) → ¬ (c = 61 ∧ j = 3) → ¬ (c = 61 ∧ j = 5) → I' c j = I c j) → (∀ c j : Nat, ¬ (c = k + 4 ∧ (f ≠ 86 ∧ j = 5 * a_ + w_)) → L' c j = L c j) → Q none I' L' R S
theorem sn_K_num : ZSnd 3 9 21 T_K_num := ZSnd.loops (zT9_21 2) (by
  rintro args I L R S Q hz ⟨c, n, p, k, a9, a, a_, f, w, w_, rfl, hS, hR, hT, htx, hX, hc, hp, hp9, hob, hD, hk, ho0, ha9, ha, hfr, hw, hf0, hQ⟩
  obtain ⟨x1, x2⟩ := id hX
  have hn4 := hc.1
  have t16 : L 1 6 = 1000000 := zSt_10 hT (by decide)
  have hk1 := hk.1
  have hk2 := hk.2
  refine ⟨[130], fun nM tM lsM stM I1 L1 R1 S1 => match tM with
      | 130 => ∃ (mi : Int) (x : Int) (fv : Int), nM = (1, 0, 0) ∧ lsM = [some (zvr (61)), some (zvi (a_)), some (zvi (f)), some (zvi (w_)), some (zvi (p)), some (zvi (mi)), some (zvl (x)), none, none, none, none] ∧ stM = [] ∧ L1 = L ∧ R1 = R ∧ S1 = S ∧ ((mi = 1 ∧ c p = 45) ∨ (mi = 0 ∧ ¬ c p = 45)) ∧ (0 ≤ mi ∧ mi ≤ 1) ∧ (I1 61 3 = fv) ∧ ((fv = -1 ∧ ¬ tBd c (tNs c p) (tNq c n p) ∧ ¬ (tFr c (tNq c n p) (tLen f) ∧ tBd c (tNq c n p + 1) (tNr c n p)) ∧ x = tNu c n p (tLen f) ∧ I1 61 2 = tNe c n p (tLen f)) ∨ (0 ≤ fv ∧ fv ≤ 9000 ∧ (tNf c n p (tLen f) (tLo f) (tHi f)) = fv)) ∧ (f ≠ 78 → x ≤ 9999) ∧ (0 ≤ x ∧ x ≤ 9999999999) ∧ (∀ c j : Nat, ¬ (c = 61 ∧ j = 2) → ¬ (c = 61 ∧ j = 3) → I1 c j = I c j)
      | _ => False, rfl, ?_, ⟨?_, True.intro⟩⟩
  · refine And.intro (zA_61 hS) (zrd (v := p) hp ?_)
    refine And.intro (zA_61 hS) ⟨_, sn_K_peek.up (by decide), ?_⟩
    refine ⟨c, n, p, rfl, hS, hR, htx, (by first | exact (zRD_fr hX (fun c j h => rfl)) | (clear hQ; grind [xu])), (by first | exact hc | (clear hQ; grind [xu])), hp, (by omega), ?_⟩
    intro v7o p7hv p7bhv2
    refine And.intro ⟨(by omega), (zRb rfl)⟩ ⟨fun h12 => ?_, fun h12 => ?_⟩
    · have t12 : tNs c p = p := (tNs_n (by omega))
      refine And.intro (zRb rfl) (zbt rfl ?_)
      refine And.intro (zA_61 hS) ⟨_, sn_K_dig.up (by decide), ?_⟩
      refine ⟨c, n, (tNs c p), (4 : Int), 4, rfl, hS, hR, htx, (by first | exact (zRD_fr hX (fun c j h => rfl)) | (clear hQ; grind [xu])), (by first | exact hc | (clear hQ; grind [xu])), (Eq.trans (b := (p : Int)) hp (by omega)), (by omega), (by omega), (Eq.trans (b := ((-1) : Int)) hf0 (by omega)), ?_⟩
      intro v39o I39o p39hpl p39bhv p39bbhf p39bbbfr
      have g39 : I39o 61 2 = tNq c n p := p39hpl
      have g39b : v39o = tVl c (tNs c p) (tNq c n p - tNs c p) := p39bhv
      have g39bb : tNs c p ≤ tNq c n p ∧ tNq c n p ≤ tNs c p + 4 := (by have w := tDe_sp (p := tNs c p) (m := 4) hc; exact ⟨w.1, w.2.1⟩)
      have g39bbb : 0 ≤ v39o ∧ v39o ≤ 9999 := (by have w := tDe_sp (p := tNs c p) (m := 4) hc; have w2 := tVl_b (c := c) (p := tNs c p) (n := tNq c n p - tNs c p) (fun i h1 h2 => w.2.2.1 i h1 (by show i < tNq c n p; omega)) (Nat.le_refl _); omega)
      rcases p39bbhf with w42 | w42
      · refine And.intro ⟨(by omega), (zRb rfl)⟩ ⟨fun h47 => ?_, fun h47 => ?_⟩
        · have t47 : tLen f = 0 := (if_neg (by omega))
          have t47b : ¬ tFr c (tNq c n p) (tLen f) := (fun w => by have w1 := w.1; have e : tLen f = 0 := if_neg (by omega); omega)
          have t47bb : tNu c n p (tLen f) = tVl c (tNs c p) (tNq c n p - tNs c p) := (tNu_0 (by rw [t47]; decide))
          refine And.intro ⟨(by omega), (zRb rfl)⟩ ⟨fun h64 => ?_, (fun h64 => False.elim (by omega))⟩
          refine ⟨(1, 0, 0), [some (zvr (61)), some (zvi (a_)), some (zvi (f)), some (zvi (w_)), some (zvi (p)), some (zvi ((0 : Int))), some (zvl (v39o)), none, none, none, none], ⟨rfl, (congrArg (fun z => some (zvi z)) (by omega)), rfl, (congrArg (fun z => some (zvi z)) (by omega)), rfl, rfl, rfl, rfl⟩, 0, v39o, (-1), rfl, rfl, rfl, rfl, rfl, rfl, (by first | exact Or.inl ⟨rfl, by omega⟩ | exact Or.inr ⟨rfl, by omega⟩), (by omega), w42.2, ?_, (by omega), (by omega), (fun c j h0 h1 => ((p39bbbfr c j (by omega) (by omega)).trans rfl))⟩
          · first
            | exact Or.inr ⟨Int.natCast_nonneg _, (by show ((tNq c n p : Nat) : Int) ≤ 9000; omega), tNf_1 w42.1⟩
            | exact Or.inr ⟨Int.natCast_nonneg _, (by show ((tNr c n p : Nat) : Int) ≤ 9000; omega), tNf_2 w42.1 t81 w106.1⟩
            | exact Or.inl ⟨rfl, w42.1, fun z => w106.1 z.2, by rw [f125bbb]; omega, by rw [tNe_y t81]; exact g103⟩
            | exact Or.inl ⟨rfl, w42.1, fun z => t81 z.1, by rw [t81b]; omega, by rw [tNe_n t81]; exact g39⟩
            | exact Or.inl ⟨rfl, w42.1, fun z => t47b z.1, by rw [t47bb]; omega, by rw [tNe_n t47b]; exact g39⟩
        · have t47 : tLen f = 1 := (if_pos (by omega))
          refine And.intro (zP_1 hS (by omega) (by omega)) (zrdL (v := 1000000) t16 ?_)
          refine And.intro ⟨(by omega), (zRb rfl)⟩ ⟨(fun h64 => False.elim (by omega)), fun h64 => ?_⟩
          refine And.intro (zA_61 hS) (zrd (v := (-1)) w42.2 ?_)
          refine And.intro ⟨(zRb rfl), (zRb rfl)⟩ (zbf rfl ?_)
          refine And.intro (zA_61 hS) ⟨_, sn_K_peek.up (by decide), ?_⟩
          refine ⟨c, n, (tNq c n p), rfl, hS, hR, htx, (by first | exact (zRD_fr hX (fun c j h => ((p39bbbfr c j (by omega) (by omega)).trans rfl))) | (clear hQ; grind [xu])), (by first | exact hc | (clear hQ; grind [xu])), g39, (by omega), ?_⟩
          intro v76o p76hv p76bhv2
          refine And.intro ⟨(by omega), (zRb rfl)⟩ ⟨fun h81 => ?_, fun h81 => ?_⟩
          · have t81 : ¬ tFr c (tNq c n p) (tLen f) := (fun w => by have w2 := w.2; omega)
            have t81b : tNu c n p (tLen f) = 1000000 * tVl c (tNs c p) (tNq c n p - tNs c p) := (tNu_n t47 t81)
            refine ⟨(1, 0, 0), [some (zvr (61)), some (zvi (a_)), some (zvi (f)), some (zvi (w_)), some (zvi (p)), some (zvi ((0 : Int))), some (zvl ((v39o * 1000000))), none, none, none, none], ⟨rfl, (congrArg (fun z => some (zvi z)) (by omega)), rfl, (congrArg (fun z => some (zvi z)) (by omega)), rfl, rfl, rfl, rfl⟩, 0, (v39o * 1000000), (-1), rfl, rfl, rfl, rfl, rfl, rfl, (by first | exact Or.inl ⟨rfl, by omega⟩ | exact Or.inr ⟨rfl, by omega⟩), (by omega), w42.2, ?_, (by omega), (by omega), (fun c j h0 h1 => ((p39bbbfr c j (by omega) (by omega)).trans rfl))⟩
            · first
              | exact Or.inr ⟨Int.natCast_nonneg _, (by show ((tNq c n p : Nat) : Int) ≤ 9000; omega), tNf_1 w42.1⟩
              | exact Or.inr ⟨Int.natCast_nonneg _, (by show ((tNr c n p : Nat) : Int) ≤ 9000; omega), tNf_2 w42.1 t81 w106.1⟩
              | exact Or.inl ⟨rfl, w42.1, fun z => w106.1 z.2, by rw [f125bbb]; omega, by rw [tNe_y t81]; exact g103⟩
              | exact Or.inl ⟨rfl, w42.1, fun z => t81 z.1, by rw [t81b]; omega, by rw [tNe_n t81]; exact g39⟩
              | exact Or.inl ⟨rfl, w42.1, fun z => t47b z.1, by rw [t47bb]; omega, by rw [tNe_n t47b]; exact g39⟩
          · have t81 : tFr c (tNq c n p) (tLen f) := ⟨t47, by omega⟩
            refine And.intro (zA_61 hS) (zrd (v := (tDe c n (tNs c p) 4)) p39hpl ?_)
            refine And.intro (zA_61 hS) ⟨_, (zWi (by omega)), ?_⟩
            refine And.intro (zA_61 hS) (zrd (v := ((tDe c n (tNs c p) 4) + 1)) rfl ?_)
            refine And.intro (zA_61 hS) ⟨_, sn_K_dig.up (by decide), ?_⟩
            refine ⟨c, n, (tNq c n p + 1), (6 : Int), 6, rfl, hS, hR, htx, (by first | exact (zRD_fr hX (fun c j h => (zxcj (by omega) ((p39bbbfr c j (by omega) (by omega)).trans rfl)))) | (clear hQ; grind [xu])), (by first | exact hc | (clear hQ; grind [xu])), (Eq.trans (b := (((tDe c n (tNs c p) 4) + 1) : Int)) rfl (by omega)), (by omega), (by omega), (zxs (by decide) w42.2), ?_⟩
            intro v103o I103o p103hpl p103bhv p103bbhf p103bbbfr
            have g103 : I103o 61 2 = tNr c n p := p103hpl
            have g103b : v103o = tVl c (tNq c n p + 1) (tNr c n p - (tNq c n p + 1)) := p103bhv
            have g103bb : tNq c n p + 1 ≤ tNr c n p ∧ tNr c n p ≤ tNq c n p + 7 := (by have w := tDe_sp (p := tNq c n p + 1) (m := 6) hc; exact ⟨w.1, w.2.1⟩)
            have g103bbb : 0 ≤ v103o ∧ v103o ≤ 999999 := (by have w := tDe_sp (p := tNq c n p + 1) (m := 6) hc; have w2 := tVl_b (c := c) (p := tNq c n p + 1) (n := (tNr c n p - (tNq c n p + 1))) (fun i h1 h2 => w.2.2.1 i h1 (by show i < tNr c n p; omega)) (Nat.le_refl _); omega)
            rcases p103bbhf with w106 | w106
            · refine And.intro (zA_61 hS) (zrd (v := (tDe c n (tNq c n p + 1) 6)) p103hpl ?_)
              refine And.intro (zP_1 hS (by omega) (by omega)) (fun v125 e125 r125 => ?_)
              have f125 : v125 = tTn (6 - (tNr c n p - (tNq c n p + 1))) := (e125.trans ((congrArg (L 1) (by omega)).trans (zSt_10 hT (i := 6 - (tNr c n p - (tNq c n p + 1))) (by omega))))
              have f125b : 0 ≤ v103o * v125 ∧ v103o * v125 ≤ 999999 := (by rw [f125, Int.mul_comm, g103b]; have w := tDe_sp (p := tNq c n p + 1) (m := 6) hc; have w2 := tVl_b (c := c) (p := tNq c n p + 1) (n := (tNr c n p - (tNq c n p + 1))) (fun i h1 h2 => w.2.2.1 i h1 (by show i < tNr c n p; omega)) (Nat.le_refl _); exact tTn_m (by omega) w2.1 w2.2)
              have f125bb : tTn (6 - (tNr c n p - (tNq c n p + 1))) * tVl c (tNq c n p + 1) (tNr c n p - (tNq c n p + 1)) = v103o * v125 := (by rw [f125, g103b, Int.mul_comm])
              have f125bbb : tNu c n p (tLen f) = 1000000 * tVl c (tNs c p) (tNq c n p - tNs c p) + v103o * v125 := (by rw [tNu_y t47 t81, f125bb])
              refine ⟨(1, 0, 0), [some (zvr (61)), some (zvi (a_)), some (zvi (f)), some (zvi (w_)), some (zvi (p)), some (zvi ((0 : Int))), some (zvl (((v39o * 1000000) + (v103o * v125)))), none, none, none, none], ⟨rfl, (congrArg (fun z => some (zvi z)) (by omega)), rfl, (congrArg (fun z => some (zvi z)) (by omega)), rfl, rfl, rfl, rfl⟩, 0, ((v39o * 1000000) + (v103o * v125)), (-1), rfl, rfl, rfl, rfl, rfl, rfl, (by first | exact Or.inl ⟨rfl, by omega⟩ | exact Or.inr ⟨rfl, by omega⟩), (by omega), w106.2, ?_, (by omega), (by omega), (fun c j h0 h1 => ((p103bbbfr c j (by omega) (by omega)).trans (zxcj h0 ((p39bbbfr c j (by omega) (by omega)).trans rfl))))⟩
              · first
                | exact Or.inr ⟨Int.natCast_nonneg _, (by show ((tNq c n p : Nat) : Int) ≤ 9000; omega), tNf_1 w42.1⟩
                | exact Or.inr ⟨Int.natCast_nonneg _, (by show ((tNr c n p : Nat) : Int) ≤ 9000; omega), tNf_2 w42.1 t81 w106.1⟩
                | exact Or.inl ⟨rfl, w42.1, fun z => w106.1 z.2, by rw [f125bbb]; omega, by rw [tNe_y t81]; exact g103⟩
                | exact Or.inl ⟨rfl, w42.1, fun z => t81 z.1, by rw [t81b]; omega, by rw [tNe_n t81]; exact g39⟩
                | exact Or.inl ⟨rfl, w42.1, fun z => t47b z.1, by rw [t47bb]; omega, by rw [tNe_n t47b]; exact g39⟩
            · refine And.intro (zA_61 hS) (zrd (v := (tDe c n (tNq c n p + 1) 6)) p103hpl ?_)
              refine And.intro (zP_1 hS (by omega) (by omega)) (fun v125 e125 r125 => ?_)
              have f125 : v125 = tTn (6 - (tNr c n p - (tNq c n p + 1))) := (e125.trans ((congrArg (L 1) (by omega)).trans (zSt_10 hT (i := 6 - (tNr c n p - (tNq c n p + 1))) (by omega))))
              have f125b : 0 ≤ v103o * v125 ∧ v103o * v125 ≤ 999999 := (by rw [f125, Int.mul_comm, g103b]; have w := tDe_sp (p := tNq c n p + 1) (m := 6) hc; have w2 := tVl_b (c := c) (p := tNq c n p + 1) (n := (tNr c n p - (tNq c n p + 1))) (fun i h1 h2 => w.2.2.1 i h1 (by show i < tNr c n p; omega)) (Nat.le_refl _); exact tTn_m (by omega) w2.1 w2.2)
              have f125bb : tTn (6 - (tNr c n p - (tNq c n p + 1))) * tVl c (tNq c n p + 1) (tNr c n p - (tNq c n p + 1)) = v103o * v125 := (by rw [f125, g103b, Int.mul_comm])
              have f125bbb : tNu c n p (tLen f) = 1000000 * tVl c (tNs c p) (tNq c n p - tNs c p) + v103o * v125 := (by rw [tNu_y t47 t81, f125bb])
              refine ⟨(1, 0, 0), [some (zvr (61)), some (zvi (a_)), some (zvi (f)), some (zvi (w_)), some (zvi (p)), some (zvi ((0 : Int))), some (zvl (((v39o * 1000000) + (v103o * v125)))), none, none, none, none], ⟨rfl, (congrArg (fun z => some (zvi z)) (by omega)), rfl, (congrArg (fun z => some (zvi z)) (by omega)), rfl, rfl, rfl, rfl⟩, 0, ((v39o * 1000000) + (v103o * v125)), (tDe c n (tNq c n p + 1) 6), rfl, rfl, rfl, rfl, rfl, rfl, (by first | exact Or.inl ⟨rfl, by omega⟩ | exact Or.inr ⟨rfl, by omega⟩), (by omega), w106.2, ?_, (by omega), (by omega), (fun c j h0 h1 => ((p103bbbfr c j (by omega) (by omega)).trans (zxcj h0 ((p39bbbfr c j (by omega) (by omega)).trans rfl))))⟩
              · first
                | exact Or.inr ⟨Int.natCast_nonneg _, (by show ((tNq c n p : Nat) : Int) ≤ 9000; omega), tNf_1 w42.1⟩
                | exact Or.inr ⟨Int.natCast_nonneg _, (by show ((tNr c n p : Nat) : Int) ≤ 9000; omega), tNf_2 w42.1 t81 w106.1⟩
                | exact Or.inl ⟨rfl, w42.1, fun z => w106.1 z.2, by rw [f125bbb]; omega, by rw [tNe_y t81]; exact g103⟩
                | exact Or.inl ⟨rfl, w42.1, fun z => t81 z.1, by rw [t81b]; omega, by rw [tNe_n t81]; exact g39⟩
                | exact Or.inl ⟨rfl, w42.1, fun z => t47b z.1, by rw [t47bb]; omega, by rw [tNe_n t47b]; exact g39⟩
      · refine And.intro ⟨(by omega), (zRb rfl)⟩ ⟨fun h47 => ?_, fun h47 => ?_⟩
        · have t47 : tLen f = 0 := (if_neg (by omega))
          have t47b : ¬ tFr c (tNq c n p) (tLen f) := (fun w => by have w1 := w.1; have e : tLen f = 0 := if_neg (by omega); omega)
          have t47bb : tNu c n p (tLen f) = tVl c (tNs c p) (tNq c n p - tNs c p) := (tNu_0 (by rw [t47]; decide))
          refine And.intro ⟨(by omega), (zRb rfl)⟩ ⟨fun h64 => ?_, (fun h64 => False.elim (by omega))⟩
          refine ⟨(1, 0, 0), [some (zvr (61)), some (zvi (a_)), some (zvi (f)), some (zvi (w_)), some (zvi (p)), some (zvi ((0 : Int))), some (zvl (v39o)), none, none, none, none], ⟨rfl, (congrArg (fun z => some (zvi z)) (by omega)), rfl, (congrArg (fun z => some (zvi z)) (by omega)), rfl, rfl, rfl, rfl⟩, 0, v39o, (tDe c n (tNs c p) 4), rfl, rfl, rfl, rfl, rfl, rfl, (by first | exact Or.inl ⟨rfl, by omega⟩ | exact Or.inr ⟨rfl, by omega⟩), (by omega), w42.2, ?_, (by omega), (by omega), (fun c j h0 h1 => ((p39bbbfr c j (by omega) (by omega)).trans rfl))⟩
          · first
            | exact Or.inr ⟨Int.natCast_nonneg _, (by show ((tNq c n p : Nat) : Int) ≤ 9000; omega), tNf_1 w42.1⟩
            | exact Or.inr ⟨Int.natCast_nonneg _, (by show ((tNr c n p : Nat) : Int) ≤ 9000; omega), tNf_2 w42.1 t81 w106.1⟩
            | exact Or.inl ⟨rfl, w42.1, fun z => w106.1 z.2, by rw [f125bbb]; omega, by rw [tNe_y t81]; exact g103⟩
            | exact Or.inl ⟨rfl, w42.1, fun z => t81 z.1, by rw [t81b]; omega, by rw [tNe_n t81]; exact g39⟩
            | exact Or.inl ⟨rfl, w42.1, fun z => t47b z.1, by rw [t47bb]; omega, by rw [tNe_n t47b]; exact g39⟩
        · have t47 : tLen f = 1 := (if_pos (by omega))
          refine And.intro (zP_1 hS (by omega) (by omega)) (zrdL (v := 1000000) t16 ?_)
          refine And.intro ⟨(by omega), (zRb rfl)⟩ ⟨(fun h64 => False.elim (by omega)), fun h64 => ?_⟩
          refine And.intro (zA_61 hS) (zrd (v := (tDe c n (tNs c p) 4)) w42.2 ?_)
          refine And.intro ⟨(by omega), (zRb rfl)⟩ ⟨fun h72 => ?_, (fun h72 => False.elim (by omega))⟩
          refine ⟨(1, 0, 0), [some (zvr (61)), some (zvi (a_)), some (zvi (f)), some (zvi (w_)), some (zvi (p)), some (zvi ((0 : Int))), some (zvl ((v39o * 1000000))), none, none, none, none], ⟨rfl, (congrArg (fun z => some (zvi z)) (by omega)), rfl, (congrArg (fun z => some (zvi z)) (by omega)), rfl, rfl, rfl, rfl⟩, 0, (v39o * 1000000), (tDe c n (tNs c p) 4), rfl, rfl, rfl, rfl, rfl, rfl, (by first | exact Or.inl ⟨rfl, by omega⟩ | exact Or.inr ⟨rfl, by omega⟩), (by omega), w42.2, ?_, (by omega), (by omega), (fun c j h0 h1 => ((p39bbbfr c j (by omega) (by omega)).trans rfl))⟩
          · first
            | exact Or.inr ⟨Int.natCast_nonneg _, (by show ((tNq c n p : Nat) : Int) ≤ 9000; omega), tNf_1 w42.1⟩
            | exact Or.inr ⟨Int.natCast_nonneg _, (by show ((tNr c n p : Nat) : Int) ≤ 9000; omega), tNf_2 w42.1 t81 w106.1⟩
            | exact Or.inl ⟨rfl, w42.1, fun z => w106.1 z.2, by rw [f125bbb]; omega, by rw [tNe_y t81]; exact g103⟩
            | exact Or.inl ⟨rfl, w42.1, fun z => t81 z.1, by rw [t81b]; omega, by rw [tNe_n t81]; exact g39⟩
            | exact Or.inl ⟨rfl, w42.1, fun z => t47b z.1, by rw [t47bb]; omega, by rw [tNe_n t47b]; exact g39⟩
    · have t12 : tNs c p = p + 1 := (tNs_y (by omega))
      refine And.intro (zRb rfl) (zbf rfl ?_)
      refine And.intro (zA_61 hS) (zrd (v := p) hp ?_)
      refine And.intro (zA_61 hS) ⟨_, (zWi (by omega)), ?_⟩
      refine And.intro (zA_61 hS) ⟨_, sn_K_dig.up (by decide), ?_⟩
      refine ⟨c, n, (tNs c p), (4 : Int), 4, rfl, hS, hR, htx, (by first | exact (zRD_fr hX (fun c j h => (zxcj (by omega) rfl))) | (clear hQ; grind [xu])), (by first | exact hc | (clear hQ; grind [xu])), (Eq.trans (b := ((p + 1) : Int)) rfl (by omega)), (by omega), (by omega), (Eq.trans (b := ((-1) : Int)) hf0 (by omega)), ?_⟩
      intro v39o I39o p39hpl p39bhv p39bbhf p39bbbfr
      have g39 : I39o 61 2 = tNq c n p := p39hpl
      have g39b : v39o = tVl c (tNs c p) (tNq c n p - tNs c p) := p39bhv
      have g39bb : tNs c p ≤ tNq c n p ∧ tNq c n p ≤ tNs c p + 4 := (by have w := tDe_sp (p := tNs c p) (m := 4) hc; exact ⟨w.1, w.2.1⟩)
      have g39bbb : 0 ≤ v39o ∧ v39o ≤ 9999 := (by have w := tDe_sp (p := tNs c p) (m := 4) hc; have w2 := tVl_b (c := c) (p := tNs c p) (n := tNq c n p - tNs c p) (fun i h1 h2 => w.2.2.1 i h1 (by show i < tNq c n p; omega)) (Nat.le_refl _); omega)
      rcases p39bbhf with w42 | w42
      · refine And.intro ⟨(by omega), (zRb rfl)⟩ ⟨fun h47 => ?_, fun h47 => ?_⟩
        · have t47 : tLen f = 0 := (if_neg (by omega))
          have t47b : ¬ tFr c (tNq c n p) (tLen f) := (fun w => by have w1 := w.1; have e : tLen f = 0 := if_neg (by omega); omega)
          have t47bb : tNu c n p (tLen f) = tVl c (tNs c p) (tNq c n p - tNs c p) := (tNu_0 (by rw [t47]; decide))
          refine And.intro ⟨(by omega), (zRb rfl)⟩ ⟨fun h64 => ?_, (fun h64 => False.elim (by omega))⟩
          refine ⟨(1, 0, 0), [some (zvr (61)), some (zvi (a_)), some (zvi (f)), some (zvi (w_)), some (zvi (p)), some (zvi ((1 : Int))), some (zvl (v39o)), none, none, none, none], ⟨rfl, (congrArg (fun z => some (zvi z)) (by omega)), rfl, (congrArg (fun z => some (zvi z)) (by omega)), rfl, rfl, rfl, rfl⟩, 1, v39o, (-1), rfl, rfl, rfl, rfl, rfl, rfl, (by first | exact Or.inl ⟨rfl, by omega⟩ | exact Or.inr ⟨rfl, by omega⟩), (by omega), w42.2, ?_, (by omega), (by omega), (fun c j h0 h1 => ((p39bbbfr c j (by omega) (by omega)).trans (zxcj h0 rfl)))⟩
          · first
            | exact Or.inr ⟨Int.natCast_nonneg _, (by show ((tNq c n p : Nat) : Int) ≤ 9000; omega), tNf_1 w42.1⟩
            | exact Or.inr ⟨Int.natCast_nonneg _, (by show ((tNr c n p : Nat) : Int) ≤ 9000; omega), tNf_2 w42.1 t81 w106.1⟩
            | exact Or.inl ⟨rfl, w42.1, fun z => w106.1 z.2, by rw [f125bbb]; omega, by rw [tNe_y t81]; exact g103⟩
            | exact Or.inl ⟨rfl, w42.1, fun z => t81 z.1, by rw [t81b]; omega, by rw [tNe_n t81]; exact g39⟩
            | exact Or.inl ⟨rfl, w42.1, fun z => t47b z.1, by rw [t47bb]; omega, by rw [tNe_n t47b]; exact g39⟩
        · have t47 : tLen f = 1 := (if_pos (by omega))
          refine And.intro (zP_1 hS (by omega) (by omega)) (zrdL (v := 1000000) t16 ?_)
          refine And.intro ⟨(by omega), (zRb rfl)⟩ ⟨(fun h64 => False.elim (by omega)), fun h64 => ?_⟩
          refine And.intro (zA_61 hS) (zrd (v := (-1)) w42.2 ?_)
          refine And.intro ⟨(zRb rfl), (zRb rfl)⟩ (zbf rfl ?_)
          refine And.intro (zA_61 hS) ⟨_, sn_K_peek.up (by decide), ?_⟩
          refine ⟨c, n, (tNq c n p), rfl, hS, hR, htx, (by first | exact (zRD_fr hX (fun c j h => ((p39bbbfr c j (by omega) (by omega)).trans (zxcj (by omega) rfl)))) | (clear hQ; grind [xu])), (by first | exact hc | (clear hQ; grind [xu])), g39, (by omega), ?_⟩
          intro v76o p76hv p76bhv2
          refine And.intro ⟨(by omega), (zRb rfl)⟩ ⟨fun h81 => ?_, fun h81 => ?_⟩
          · have t81 : ¬ tFr c (tNq c n p) (tLen f) := (fun w => by have w2 := w.2; omega)
            have t81b : tNu c n p (tLen f) = 1000000 * tVl c (tNs c p) (tNq c n p - tNs c p) := (tNu_n t47 t81)
            refine ⟨(1, 0, 0), [some (zvr (61)), some (zvi (a_)), some (zvi (f)), some (zvi (w_)), some (zvi (p)), some (zvi ((1 : Int))), some (zvl ((v39o * 1000000))), none, none, none, none], ⟨rfl, (congrArg (fun z => some (zvi z)) (by omega)), rfl, (congrArg (fun z => some (zvi z)) (by omega)), rfl, rfl, rfl, rfl⟩, 1, (v39o * 1000000), (-1), rfl, rfl, rfl, rfl, rfl, rfl, (by first | exact Or.inl ⟨rfl, by omega⟩ | exact Or.inr ⟨rfl, by omega⟩), (by omega), w42.2, ?_, (by omega), (by omega), (fun c j h0 h1 => ((p39bbbfr c j (by omega) (by omega)).trans (zxcj h0 rfl)))⟩
            · first
              | exact Or.inr ⟨Int.natCast_nonneg _, (by show ((tNq c n p : Nat) : Int) ≤ 9000; omega), tNf_1 w42.1⟩
              | exact Or.inr ⟨Int.natCast_nonneg _, (by show ((tNr c n p : Nat) : Int) ≤ 9000; omega), tNf_2 w42.1 t81 w106.1⟩
              | exact Or.inl ⟨rfl, w42.1, fun z => w106.1 z.2, by rw [f125bbb]; omega, by rw [tNe_y t81]; exact g103⟩
              | exact Or.inl ⟨rfl, w42.1, fun z => t81 z.1, by rw [t81b]; omega, by rw [tNe_n t81]; exact g39⟩
              | exact Or.inl ⟨rfl, w42.1, fun z => t47b z.1, by rw [t47bb]; omega, by rw [tNe_n t47b]; exact g39⟩
          · have t81 : tFr c (tNq c n p) (tLen f) := ⟨t47, by omega⟩
            refine And.intro (zA_61 hS) (zrd (v := (tDe c n (tNs c p) 4)) p39hpl ?_)
            refine And.intro (zA_61 hS) ⟨_, (zWi (by omega)), ?_⟩
            refine And.intro (zA_61 hS) (zrd (v := ((tDe c n (tNs c p) 4) + 1)) rfl ?_)
            refine And.intro (zA_61 hS) ⟨_, sn_K_dig.up (by decide), ?_⟩
            refine ⟨c, n, (tNq c n p + 1), (6 : Int), 6, rfl, hS, hR, htx, (by first | exact (zRD_fr hX (fun c j h => (zxcj (by omega) ((p39bbbfr c j (by omega) (by omega)).trans (zxcj (by omega) rfl))))) | (clear hQ; grind [xu])), (by first | exact hc | (clear hQ; grind [xu])), (Eq.trans (b := (((tDe c n (tNs c p) 4) + 1) : Int)) rfl (by omega)), (by omega), (by omega), (zxs (by decide) w42.2), ?_⟩
            intro v103o I103o p103hpl p103bhv p103bbhf p103bbbfr
            have g103 : I103o 61 2 = tNr c n p := p103hpl
            have g103b : v103o = tVl c (tNq c n p + 1) (tNr c n p - (tNq c n p + 1)) := p103bhv
            have g103bb : tNq c n p + 1 ≤ tNr c n p ∧ tNr c n p ≤ tNq c n p + 7 := (by have w := tDe_sp (p := tNq c n p + 1) (m := 6) hc; exact ⟨w.1, w.2.1⟩)
            have g103bbb : 0 ≤ v103o ∧ v103o ≤ 999999 := (by have w := tDe_sp (p := tNq c n p + 1) (m := 6) hc; have w2 := tVl_b (c := c) (p := tNq c n p + 1) (n := (tNr c n p - (tNq c n p + 1))) (fun i h1 h2 => w.2.2.1 i h1 (by show i < tNr c n p; omega)) (Nat.le_refl _); omega)
            rcases p103bbhf with w106 | w106
            · refine And.intro (zA_61 hS) (zrd (v := (tDe c n (tNq c n p + 1) 6)) p103hpl ?_)
              refine And.intro (zP_1 hS (by omega) (by omega)) (fun v125 e125 r125 => ?_)
              have f125 : v125 = tTn (6 - (tNr c n p - (tNq c n p + 1))) := (e125.trans ((congrArg (L 1) (by omega)).trans (zSt_10 hT (i := 6 - (tNr c n p - (tNq c n p + 1))) (by omega))))
              have f125b : 0 ≤ v103o * v125 ∧ v103o * v125 ≤ 999999 := (by rw [f125, Int.mul_comm, g103b]; have w := tDe_sp (p := tNq c n p + 1) (m := 6) hc; have w2 := tVl_b (c := c) (p := tNq c n p + 1) (n := (tNr c n p - (tNq c n p + 1))) (fun i h1 h2 => w.2.2.1 i h1 (by show i < tNr c n p; omega)) (Nat.le_refl _); exact tTn_m (by omega) w2.1 w2.2)
              have f125bb : tTn (6 - (tNr c n p - (tNq c n p + 1))) * tVl c (tNq c n p + 1) (tNr c n p - (tNq c n p + 1)) = v103o * v125 := (by rw [f125, g103b, Int.mul_comm])
              have f125bbb : tNu c n p (tLen f) = 1000000 * tVl c (tNs c p) (tNq c n p - tNs c p) + v103o * v125 := (by rw [tNu_y t47 t81, f125bb])
              refine ⟨(1, 0, 0), [some (zvr (61)), some (zvi (a_)), some (zvi (f)), some (zvi (w_)), some (zvi (p)), some (zvi ((1 : Int))), some (zvl (((v39o * 1000000) + (v103o * v125)))), none, none, none, none], ⟨rfl, (congrArg (fun z => some (zvi z)) (by omega)), rfl, (congrArg (fun z => some (zvi z)) (by omega)), rfl, rfl, rfl, rfl⟩, 1, ((v39o * 1000000) + (v103o * v125)), (-1), rfl, rfl, rfl, rfl, rfl, rfl, (by first | exact Or.inl ⟨rfl, by omega⟩ | exact Or.inr ⟨rfl, by omega⟩), (by omega), w106.2, ?_, (by omega), (by omega), (fun c j h0 h1 => ((p103bbbfr c j (by omega) (by omega)).trans (zxcj h0 ((p39bbbfr c j (by omega) (by omega)).trans (zxcj h0 rfl)))))⟩
              · first
                | exact Or.inr ⟨Int.natCast_nonneg _, (by show ((tNq c n p : Nat) : Int) ≤ 9000; omega), tNf_1 w42.1⟩
                | exact Or.inr ⟨Int.natCast_nonneg _, (by show ((tNr c n p : Nat) : Int) ≤ 9000; omega), tNf_2 w42.1 t81 w106.1⟩
                | exact Or.inl ⟨rfl, w42.1, fun z => w106.1 z.2, by rw [f125bbb]; omega, by rw [tNe_y t81]; exact g103⟩
                | exact Or.inl ⟨rfl, w42.1, fun z => t81 z.1, by rw [t81b]; omega, by rw [tNe_n t81]; exact g39⟩
                | exact Or.inl ⟨rfl, w42.1, fun z => t47b z.1, by rw [t47bb]; omega, by rw [tNe_n t47b]; exact g39⟩
            · refine And.intro (zA_61 hS) (zrd (v := (tDe c n (tNq c n p + 1) 6)) p103hpl ?_)
              refine And.intro (zP_1 hS (by omega) (by omega)) (fun v125 e125 r125 => ?_)
              have f125 : v125 = tTn (6 - (tNr c n p - (tNq c n p + 1))) := (e125.trans ((congrArg (L 1) (by omega)).trans (zSt_10 hT (i := 6 - (tNr c n p - (tNq c n p + 1))) (by omega))))
              have f125b : 0 ≤ v103o * v125 ∧ v103o * v125 ≤ 999999 := (by rw [f125, Int.mul_comm, g103b]; have w := tDe_sp (p := tNq c n p + 1) (m := 6) hc; have w2 := tVl_b (c := c) (p := tNq c n p + 1) (n := (tNr c n p - (tNq c n p + 1))) (fun i h1 h2 => w.2.2.1 i h1 (by show i < tNr c n p; omega)) (Nat.le_refl _); exact tTn_m (by omega) w2.1 w2.2)
              have f125bb : tTn (6 - (tNr c n p - (tNq c n p + 1))) * tVl c (tNq c n p + 1) (tNr c n p - (tNq c n p + 1)) = v103o * v125 := (by rw [f125, g103b, Int.mul_comm])
              have f125bbb : tNu c n p (tLen f) = 1000000 * tVl c (tNs c p) (tNq c n p - tNs c p) + v103o * v125 := (by rw [tNu_y t47 t81, f125bb])
              refine ⟨(1, 0, 0), [some (zvr (61)), some (zvi (a_)), some (zvi (f)), some (zvi (w_)), some (zvi (p)), some (zvi ((1 : Int))), some (zvl (((v39o * 1000000) + (v103o * v125)))), none, none, none, none], ⟨rfl, (congrArg (fun z => some (zvi z)) (by omega)), rfl, (congrArg (fun z => some (zvi z)) (by omega)), rfl, rfl, rfl, rfl⟩, 1, ((v39o * 1000000) + (v103o * v125)), (tDe c n (tNq c n p + 1) 6), rfl, rfl, rfl, rfl, rfl, rfl, (by first | exact Or.inl ⟨rfl, by omega⟩ | exact Or.inr ⟨rfl, by omega⟩), (by omega), w106.2, ?_, (by omega), (by omega), (fun c j h0 h1 => ((p103bbbfr c j (by omega) (by omega)).trans (zxcj h0 ((p39bbbfr c j (by omega) (by omega)).trans (zxcj h0 rfl)))))⟩
              · first
                | exact Or.inr ⟨Int.natCast_nonneg _, (by show ((tNq c n p : Nat) : Int) ≤ 9000; omega), tNf_1 w42.1⟩
                | exact Or.inr ⟨Int.natCast_nonneg _, (by show ((tNr c n p : Nat) : Int) ≤ 9000; omega), tNf_2 w42.1 t81 w106.1⟩
                | exact Or.inl ⟨rfl, w42.1, fun z => w106.1 z.2, by rw [f125bbb]; omega, by rw [tNe_y t81]; exact g103⟩
                | exact Or.inl ⟨rfl, w42.1, fun z => t81 z.1, by rw [t81b]; omega, by rw [tNe_n t81]; exact g39⟩
                | exact Or.inl ⟨rfl, w42.1, fun z => t47b z.1, by rw [t47bb]; omega, by rw [tNe_n t47b]; exact g39⟩
      · refine And.intro ⟨(by omega), (zRb rfl)⟩ ⟨fun h47 => ?_, fun h47 => ?_⟩
        · have t47 : tLen f = 0 := (if_neg (by omega))
          have t47b : ¬ tFr c (tNq c n p) (tLen f) := (fun w => by have w1 := w.1; have e : tLen f = 0 := if_neg (by omega); omega)
          have t47bb : tNu c n p (tLen f) = tVl c (tNs c p) (tNq c n p - tNs c p) := (tNu_0 (by rw [t47]; decide))
          refine And.intro ⟨(by omega), (zRb rfl)⟩ ⟨fun h64 => ?_, (fun h64 => False.elim (by omega))⟩
          refine ⟨(1, 0, 0), [some (zvr (61)), some (zvi (a_)), some (zvi (f)), some (zvi (w_)), some (zvi (p)), some (zvi ((1 : Int))), some (zvl (v39o)), none, none, none, none], ⟨rfl, (congrArg (fun z => some (zvi z)) (by omega)), rfl, (congrArg (fun z => some (zvi z)) (by omega)), rfl, rfl, rfl, rfl⟩, 1, v39o, (tDe c n (tNs c p) 4), rfl, rfl, rfl, rfl, rfl, rfl, (by first | exact Or.inl ⟨rfl, by omega⟩ | exact Or.inr ⟨rfl, by omega⟩), (by omega), w42.2, ?_, (by omega), (by omega), (fun c j h0 h1 => ((p39bbbfr c j (by omega) (by omega)).trans (zxcj h0 rfl)))⟩
          · first
            | exact Or.inr ⟨Int.natCast_nonneg _, (by show ((tNq c n p : Nat) : Int) ≤ 9000; omega), tNf_1 w42.1⟩
            | exact Or.inr ⟨Int.natCast_nonneg _, (by show ((tNr c n p : Nat) : Int) ≤ 9000; omega), tNf_2 w42.1 t81 w106.1⟩
            | exact Or.inl ⟨rfl, w42.1, fun z => w106.1 z.2, by rw [f125bbb]; omega, by rw [tNe_y t81]; exact g103⟩
            | exact Or.inl ⟨rfl, w42.1, fun z => t81 z.1, by rw [t81b]; omega, by rw [tNe_n t81]; exact g39⟩
            | exact Or.inl ⟨rfl, w42.1, fun z => t47b z.1, by rw [t47bb]; omega, by rw [tNe_n t47b]; exact g39⟩
        · have t47 : tLen f = 1 := (if_pos (by omega))
          refine And.intro (zP_1 hS (by omega) (by omega)) (zrdL (v := 1000000) t16 ?_)
          refine And.intro ⟨(by omega), (zRb rfl)⟩ ⟨(fun h64 => False.elim (by omega)), fun h64 => ?_⟩
          refine And.intro (zA_61 hS) (zrd (v := (tDe c n (tNs c p) 4)) w42.2 ?_)
          refine And.intro ⟨(by omega), (zRb rfl)⟩ ⟨fun h72 => ?_, (fun h72 => False.elim (by omega))⟩
          refine ⟨(1, 0, 0), [some (zvr (61)), some (zvi (a_)), some (zvi (f)), some (zvi (w_)), some (zvi (p)), some (zvi ((1 : Int))), some (zvl ((v39o * 1000000))), none, none, none, none], ⟨rfl, (congrArg (fun z => some (zvi z)) (by omega)), rfl, (congrArg (fun z => some (zvi z)) (by omega)), rfl, rfl, rfl, rfl⟩, 1, (v39o * 1000000), (tDe c n (tNs c p) 4), rfl, rfl, rfl, rfl, rfl, rfl, (by first | exact Or.inl ⟨rfl, by omega⟩ | exact Or.inr ⟨rfl, by omega⟩), (by omega), w42.2, ?_, (by omega), (by omega), (fun c j h0 h1 => ((p39bbbfr c j (by omega) (by omega)).trans (zxcj h0 rfl)))⟩
          · first
            | exact Or.inr ⟨Int.natCast_nonneg _, (by show ((tNq c n p : Nat) : Int) ≤ 9000; omega), tNf_1 w42.1⟩
            | exact Or.inr ⟨Int.natCast_nonneg _, (by show ((tNr c n p : Nat) : Int) ≤ 9000; omega), tNf_2 w42.1 t81 w106.1⟩
            | exact Or.inl ⟨rfl, w42.1, fun z => w106.1 z.2, by rw [f125bbb]; omega, by rw [tNe_y t81]; exact g103⟩
            | exact Or.inl ⟨rfl, w42.1, fun z => t81 z.1, by rw [t81b]; omega, by rw [tNe_n t81]; exact g39⟩
            | exact Or.inl ⟨rfl, w42.1, fun z => t47b z.1, by rw [t47bb]; omega, by rw [tNe_n t47b]; exact g39⟩
  · rintro nM lsM stM I1 L1 R1 S1 hz1 ⟨mi, x, fv, rfl, rfl, rfl, rfl, rfl, rfl, hmi, hmb, hfv, hst, hx86, hxb, fr⟩
    refine And.intro (by omega) ⟨fun h132 => ?_, fun h132 => ?_⟩
    · refine And.intro (zA_61 hS) (zrd (v := fv) hfv ?_)
      refine And.intro ⟨(by omega), (zRb rfl)⟩ ⟨fun h150 => ?_, fun h150 => ?_⟩
      · have t150 : (1 : Int) ≤ 2 := (by decide)
        refine And.intro ⟨(by omega), (zRb rfl)⟩ ⟨fun h185 => ?_, fun h185 => ?_⟩
        · refine And.intro (zA_61 hS) (zrdR (v := some k) hob ?_)
          refine And.intro (zDX hD 0 rfl) ⟨_, sn_O_set.up (by decide), ?_⟩
          refine ⟨k, a9, (a_ : Int), a_, (w_ : Int), w_, (x : Int), rfl, hS, hR, hD, ((fr k 0 (by omega) (by omega)).trans ho0), (by omega), (by omega), (by omega), (by omega), ?_⟩
          intro L206o p206hv2 p206bfr
          refine hQ _ _ ?_ ?_ (fun c j h0 h1 h2 => ((fr c j (by omega) (by omega)).trans rfl)) (fun c j h0 => ((p206bfr c j (by omega)).trans rfl))
          · rcases hst with w | w
            · first
              | exact absurd w.1 h150
              | (have m_ := t160
                 rw [tNf_3 w.2.1 w.2.2.1 (by have wx := w.2.2.2.1; rcases hmi with u | u; (rw [tNv_y u.2]; omega); (rw [tNv_n u.2]; omega))]
                 exact zxe)
              | (have m_ := t170b
                 rw [tNf_4 w.2.1 w.2.2.1 (by have wx := w.2.2.2.1; rcases hmi with u | u; (rw [tNv_y u.2]; omega); (rw [tNv_n u.2]; omega))]
                 exact hfv.trans w.1)
              | (have m_ := t170
                 rw [tNf_3 w.2.1 w.2.2.1 (by have wx := w.2.2.2.1; rcases hmi with u | u; (rw [tNv_y u.2]; omega); (rw [tNv_n u.2]; omega))]
                 exact zxe)
            · first
              | (have m_ := t150
                 exact hfv.trans w.2.2.symm)
              | (exfalso; omega)
          · intro h9
            rcases hst with w | w
            · first
              | exact absurd w.1 h150
              | (have m_ := t160
                 rw [tNf_3 w.2.1 w.2.2.1 (by have wx := w.2.2.2.1; rcases hmi with u | u; (rw [tNv_y u.2]; omega); (rw [tNv_n u.2]; omega))] at h9
                 omega)
              | (have m_ := t170b
                 refine ⟨w.2.2.2.2, fun hf6 => ?_, fun hf6 => ?_⟩
                 · first
                   | exact zxe.trans (by have wx := w.2.2.2.1; rcases hmi with u | u; (rw [tNv_y u.2]; omega); (rw [tNv_n u.2]; omega))
                   | exact absurd hf6 h185
                 · first
                   | exact ⟨p206hv2.trans (by have wx := w.2.2.2.1; rcases hmi with u | u; (rw [tNv_y u.2]; omega); (rw [tNv_n u.2]; omega)), ((fr 61 _ (by omega) (by omega)).trans rfl)⟩
                   | exact absurd h185 hf6)
              | (have m_ := t170
                 rw [tNf_3 w.2.1 w.2.2.1 (by have wx := w.2.2.2.1; rcases hmi with u | u; (rw [tNv_y u.2]; omega); (rw [tNv_n u.2]; omega))] at h9
                 omega)
            · exfalso
              omega
        · refine ⟨_, (zWi (by omega)), ?_⟩
          refine And.intro (zA_61 hS) ⟨_, (zWi (by omega)), ?_⟩
          refine hQ _ _ ?_ ?_ (fun c j h0 h1 h2 => (zxcj h2 ((fr c j (by omega) (by omega)).trans rfl))) (fun c j h0 => rfl)
          · rcases hst with w | w
            · first
              | exact absurd w.1 h150
              | (have m_ := t160
                 rw [tNf_3 w.2.1 w.2.2.1 (by have wx := w.2.2.2.1; rcases hmi with u | u; (rw [tNv_y u.2]; omega); (rw [tNv_n u.2]; omega))]
                 exact zxe)
              | (have m_ := t170b
                 rw [tNf_4 w.2.1 w.2.2.1 (by have wx := w.2.2.2.1; rcases hmi with u | u; (rw [tNv_y u.2]; omega); (rw [tNv_n u.2]; omega))]
                 exact hfv.trans w.1)
              | (have m_ := t170
                 rw [tNf_3 w.2.1 w.2.2.1 (by have wx := w.2.2.2.1; rcases hmi with u | u; (rw [tNv_y u.2]; omega); (rw [tNv_n u.2]; omega))]
                 exact zxe)
            · first
              | (have m_ := t150
                 exact hfv.trans w.2.2.symm)
              | (exfalso; omega)
          · intro h9
            rcases hst with w | w
            · first
              | exact absurd w.1 h150
              | (have m_ := t160
                 rw [tNf_3 w.2.1 w.2.2.1 (by have wx := w.2.2.2.1; rcases hmi with u | u; (rw [tNv_y u.2]; omega); (rw [tNv_n u.2]; omega))] at h9
                 omega)
              | (have m_ := t170b
                 refine ⟨w.2.2.2.2, fun hf6 => ?_, fun hf6 => ?_⟩
                 · first
                   | exact zxe.trans (by have wx := w.2.2.2.1; rcases hmi with u | u; (rw [tNv_y u.2]; omega); (rw [tNv_n u.2]; omega))
                   | exact absurd hf6 h185
                 · first
                   | exact ⟨p206hv2.trans (by have wx := w.2.2.2.1; rcases hmi with u | u; (rw [tNv_y u.2]; omega); (rw [tNv_n u.2]; omega)), (zxcj (by omega) ((fr 61 _ (by omega) (by omega)).trans rfl))⟩
                   | exact absurd h185 hf6)
              | (have m_ := t170
                 rw [tNf_3 w.2.1 w.2.2.1 (by have wx := w.2.2.2.1; rcases hmi with u | u; (rw [tNv_y u.2]; omega); (rw [tNv_n u.2]; omega))] at h9
                 omega)
            · exfalso
              omega
      · refine ⟨_, sn_K_lst.up (by decide), ?_⟩
        refine ⟨(f : Int), rfl, (by omega), ?_⟩
        intro v156o p156hv p156bhv2
        refine ⟨_, _, ⟨zW6i (by omega), zW6i (by omega)⟩, fun z159 c159 => ?_⟩
        refine And.intro c159.2.2 ⟨fun h160 => ?_, fun h160 => ?_⟩
        · have t160 : (1 : Int) ≤ 2 := (by decide)
          refine And.intro (zA_61 hS) (Exists.intro _ (And.intro (zinl_ok (zT9_2 1)) (And.intro rfl ?_)))
          refine And.intro (zA_61 hS) (zrd (v := fv) hfv ?_)
          refine And.intro ⟨(by omega), (zRb rfl)⟩ ⟨(fun h5_176 => False.elim (by omega)), fun h5_176 => ?_⟩
          refine And.intro (zA_61 hS) ⟨_, (zWi (by omega)), ?_⟩
          refine hQ _ _ ?_ ?_ (fun c j h0 h1 h2 => (zxcj h1 ((fr c j (by omega) (by omega)).trans rfl))) (fun c j h0 => rfl)
          · rcases hst with w | w
            · first
              | exact absurd w.1 h150
              | (have m_ := t160
                 rw [tNf_3 w.2.1 w.2.2.1 (by have wx := w.2.2.2.1; rcases hmi with u | u; (rw [tNv_y u.2]; omega); (rw [tNv_n u.2]; omega))]
                 exact zxe)
              | (have m_ := t170b
                 rw [tNf_4 w.2.1 w.2.2.1 (by have wx := w.2.2.2.1; rcases hmi with u | u; (rw [tNv_y u.2]; omega); (rw [tNv_n u.2]; omega))]
                 exact hfv.trans w.1)
              | (have m_ := t170
                 rw [tNf_3 w.2.1 w.2.2.1 (by have wx := w.2.2.2.1; rcases hmi with u | u; (rw [tNv_y u.2]; omega); (rw [tNv_n u.2]; omega))]
                 exact zxe)
            · first
              | (have m_ := t150
                 exact hfv.trans w.2.2.symm)
              | (exfalso; omega)
          · intro h9
            rcases hst with w | w
            · first
              | exact absurd w.1 h150
              | (have m_ := t160
                 rw [tNf_3 w.2.1 w.2.2.1 (by have wx := w.2.2.2.1; rcases hmi with u | u; (rw [tNv_y u.2]; omega); (rw [tNv_n u.2]; omega))] at h9
                 omega)
              | (have m_ := t170b
                 refine ⟨w.2.2.2.2, fun hf6 => ?_, fun hf6 => ?_⟩
                 · first
                   | exact zxe.trans (by have wx := w.2.2.2.1; rcases hmi with u | u; (rw [tNv_y u.2]; omega); (rw [tNv_n u.2]; omega))
                   | exact absurd hf6 h185
                 · first
                   | exact ⟨p206hv2.trans (by have wx := w.2.2.2.1; rcases hmi with u | u; (rw [tNv_y u.2]; omega); (rw [tNv_n u.2]; omega)), (zxcj (by omega) ((fr 61 _ (by omega) (by omega)).trans rfl))⟩
                   | exact absurd h185 hf6)
              | (have m_ := t170
                 rw [tNf_3 w.2.1 w.2.2.1 (by have wx := w.2.2.2.1; rcases hmi with u | u; (rw [tNv_y u.2]; omega); (rw [tNv_n u.2]; omega))] at h9
                 omega)
            · exfalso
              omega
        · refine ⟨_, sn_K_grt.up (by decide), ?_⟩
          refine ⟨(f : Int), rfl, (by omega), ?_⟩
          intro v166o p166hv p166bhv2
          refine ⟨_, _, ⟨zW6i (by omega), zW6i (by omega)⟩, fun z169 c169 => ?_⟩
          refine And.intro c169.2.2 ⟨fun h170 => ?_, fun h170 => ?_⟩
          · have t170 : (1 : Int) ≤ 2 := (by decide)
            have t170b : (1 : Int) ≤ 2 := (by decide)
            refine And.intro ⟨(by omega), (zRb rfl)⟩ ⟨fun h185 => ?_, fun h185 => ?_⟩
            · refine And.intro (zA_61 hS) (zrdR (v := some k) hob ?_)
              refine And.intro (zDX hD 0 rfl) ⟨_, sn_O_set.up (by decide), ?_⟩
              refine ⟨k, a9, (a_ : Int), a_, (w_ : Int), w_, (x : Int), rfl, hS, hR, hD, ((fr k 0 (by omega) (by omega)).trans ho0), (by omega), (by omega), (by omega), (by omega), ?_⟩
              intro L206o p206hv2 p206bfr
              refine hQ _ _ ?_ ?_ (fun c j h0 h1 h2 => ((fr c j (by omega) (by omega)).trans rfl)) (fun c j h0 => ((p206bfr c j (by omega)).trans rfl))
              · rcases hst with w | w
                · first
                  | exact absurd w.1 h150
                  | (have m_ := t160
                     rw [tNf_3 w.2.1 w.2.2.1 (by have wx := w.2.2.2.1; rcases hmi with u | u; (rw [tNv_y u.2]; omega); (rw [tNv_n u.2]; omega))]
                     exact zxe)
                  | (have m_ := t170b
                     rw [tNf_4 w.2.1 w.2.2.1 (by have wx := w.2.2.2.1; rcases hmi with u | u; (rw [tNv_y u.2]; omega); (rw [tNv_n u.2]; omega))]
                     exact hfv.trans w.1)
                  | (have m_ := t170
                     rw [tNf_3 w.2.1 w.2.2.1 (by have wx := w.2.2.2.1; rcases hmi with u | u; (rw [tNv_y u.2]; omega); (rw [tNv_n u.2]; omega))]
                     exact zxe)
                · first
                  | (have m_ := t150
                     exact hfv.trans w.2.2.symm)
                  | (exfalso; omega)
              · intro h9
                rcases hst with w | w
                · first
                  | exact absurd w.1 h150
                  | (have m_ := t160
                     rw [tNf_3 w.2.1 w.2.2.1 (by have wx := w.2.2.2.1; rcases hmi with u | u; (rw [tNv_y u.2]; omega); (rw [tNv_n u.2]; omega))] at h9
                     omega)
                  | (have m_ := t170b
                     refine ⟨w.2.2.2.2, fun hf6 => ?_, fun hf6 => ?_⟩
                     · first
                       | exact zxe.trans (by have wx := w.2.2.2.1; rcases hmi with u | u; (rw [tNv_y u.2]; omega); (rw [tNv_n u.2]; omega))
                       | exact absurd hf6 h185
                     · first
                       | exact ⟨p206hv2.trans (by have wx := w.2.2.2.1; rcases hmi with u | u; (rw [tNv_y u.2]; omega); (rw [tNv_n u.2]; omega)), ((fr 61 _ (by omega) (by omega)).trans rfl)⟩
                       | exact absurd h185 hf6)
                  | (have m_ := t170
                     rw [tNf_3 w.2.1 w.2.2.1 (by have wx := w.2.2.2.1; rcases hmi with u | u; (rw [tNv_y u.2]; omega); (rw [tNv_n u.2]; omega))] at h9
                     omega)
                · exfalso
                  omega
            · refine ⟨_, (zWi (by omega)), ?_⟩
              refine And.intro (zA_61 hS) ⟨_, (zWi (by omega)), ?_⟩
              refine hQ _ _ ?_ ?_ (fun c j h0 h1 h2 => (zxcj h2 ((fr c j (by omega) (by omega)).trans rfl))) (fun c j h0 => rfl)
              · rcases hst with w | w
                · first
                  | exact absurd w.1 h150
                  | (have m_ := t160
                     rw [tNf_3 w.2.1 w.2.2.1 (by have wx := w.2.2.2.1; rcases hmi with u | u; (rw [tNv_y u.2]; omega); (rw [tNv_n u.2]; omega))]
                     exact zxe)
                  | (have m_ := t170b
                     rw [tNf_4 w.2.1 w.2.2.1 (by have wx := w.2.2.2.1; rcases hmi with u | u; (rw [tNv_y u.2]; omega); (rw [tNv_n u.2]; omega))]
                     exact hfv.trans w.1)
                  | (have m_ := t170
                     rw [tNf_3 w.2.1 w.2.2.1 (by have wx := w.2.2.2.1; rcases hmi with u | u; (rw [tNv_y u.2]; omega); (rw [tNv_n u.2]; omega))]
                     exact zxe)
                · first
                  | (have m_ := t150
                     exact hfv.trans w.2.2.symm)
                  | (exfalso; omega)
              · intro h9
                rcases hst with w | w
                · first
                  | exact absurd w.1 h150
                  | (have m_ := t160
                     rw [tNf_3 w.2.1 w.2.2.1 (by have wx := w.2.2.2.1; rcases hmi with u | u; (rw [tNv_y u.2]; omega); (rw [tNv_n u.2]; omega))] at h9
                     omega)
                  | (have m_ := t170b
                     refine ⟨w.2.2.2.2, fun hf6 => ?_, fun hf6 => ?_⟩
                     · first
                       | exact zxe.trans (by have wx := w.2.2.2.1; rcases hmi with u | u; (rw [tNv_y u.2]; omega); (rw [tNv_n u.2]; omega))
                       | exact absurd hf6 h185
                     · first
                       | exact ⟨p206hv2.trans (by have wx := w.2.2.2.1; rcases hmi with u | u; (rw [tNv_y u.2]; omega); (rw [tNv_n u.2]; omega)), (zxcj (by omega) ((fr 61 _ (by omega) (by omega)).trans rfl))⟩
                       | exact absurd h185 hf6)
                  | (have m_ := t170
                     rw [tNf_3 w.2.1 w.2.2.1 (by have wx := w.2.2.2.1; rcases hmi with u | u; (rw [tNv_y u.2]; omega); (rw [tNv_n u.2]; omega))] at h9
                     omega)
                · exfalso
                  omega
          · have t170 : (1 : Int) ≤ 2 := (by decide)
            refine And.intro (zA_61 hS) (Exists.intro _ (And.intro (zinl_ok (zT9_2 1)) (And.intro rfl ?_)))
            refine And.intro (zA_61 hS) (zrd (v := fv) hfv ?_)
            refine And.intro ⟨(by omega), (zRb rfl)⟩ ⟨(fun h5_176 => False.elim (by omega)), fun h5_176 => ?_⟩
            refine And.intro (zA_61 hS) ⟨_, (zWi (by omega)), ?_⟩
            refine hQ _ _ ?_ ?_ (fun c j h0 h1 h2 => (zxcj h1 ((fr c j (by omega) (by omega)).trans rfl))) (fun c j h0 => rfl)
            · rcases hst with w | w
              · first
                | exact absurd w.1 h150
                | (have m_ := t160
                   rw [tNf_3 w.2.1 w.2.2.1 (by have wx := w.2.2.2.1; rcases hmi with u | u; (rw [tNv_y u.2]; omega); (rw [tNv_n u.2]; omega))]
                   exact zxe)
                | (have m_ := t170b
                   rw [tNf_4 w.2.1 w.2.2.1 (by have wx := w.2.2.2.1; rcases hmi with u | u; (rw [tNv_y u.2]; omega); (rw [tNv_n u.2]; omega))]
                   exact hfv.trans w.1)
                | (have m_ := t170
                   rw [tNf_3 w.2.1 w.2.2.1 (by have wx := w.2.2.2.1; rcases hmi with u | u; (rw [tNv_y u.2]; omega); (rw [tNv_n u.2]; omega))]
                   exact zxe)
              · first
                | (have m_ := t150
                   exact hfv.trans w.2.2.symm)
                | (exfalso; omega)
            · intro h9
              rcases hst with w | w
              · first
                | exact absurd w.1 h150
                | (have m_ := t160
                   rw [tNf_3 w.2.1 w.2.2.1 (by have wx := w.2.2.2.1; rcases hmi with u | u; (rw [tNv_y u.2]; omega); (rw [tNv_n u.2]; omega))] at h9
                   omega)
                | (have m_ := t170b
                   refine ⟨w.2.2.2.2, fun hf6 => ?_, fun hf6 => ?_⟩
                   · first
                     | exact zxe.trans (by have wx := w.2.2.2.1; rcases hmi with u | u; (rw [tNv_y u.2]; omega); (rw [tNv_n u.2]; omega))
                     | exact absurd hf6 h185
                   · first
                     | exact ⟨p206hv2.trans (by have wx := w.2.2.2.1; rcases hmi with u | u; (rw [tNv_y u.2]; omega); (rw [tNv_n u.2]; omega)), (zxcj (by omega) ((fr 61 _ (by omega) (by omega)).trans rfl))⟩
                     | exact absurd h185 hf6)
                | (have m_ := t170
                   rw [tNf_3 w.2.1 w.2.2.1 (by have wx := w.2.2.2.1; rcases hmi with u | u; (rw [tNv_y u.2]; omega); (rw [tNv_n u.2]; omega))] at h9
                   omega)
              · exfalso
                omega
    · refine And.intro (zA_61 hS) (zrd (v := fv) hfv ?_)
      refine And.intro ⟨(by omega), (zRb rfl)⟩ ⟨fun h150 => ?_, fun h150 => ?_⟩
      · have t150 : (1 : Int) ≤ 2 := (by decide)
        refine And.intro ⟨(by omega), (zRb rfl)⟩ ⟨fun h185 => ?_, fun h185 => ?_⟩
        · refine And.intro (zA_61 hS) (zrdR (v := some k) hob ?_)
          refine And.intro (zDX hD 0 rfl) ⟨_, sn_O_set.up (by decide), ?_⟩
          refine ⟨k, a9, (a_ : Int), a_, (w_ : Int), w_, ((-x) : Int), rfl, hS, hR, hD, ((fr k 0 (by omega) (by omega)).trans ho0), (by omega), (by omega), (by omega), (by omega), ?_⟩
          intro L206o p206hv2 p206bfr
          refine hQ _ _ ?_ ?_ (fun c j h0 h1 h2 => ((fr c j (by omega) (by omega)).trans rfl)) (fun c j h0 => ((p206bfr c j (by omega)).trans rfl))
          · rcases hst with w | w
            · first
              | exact absurd w.1 h150
              | (have m_ := t160
                 rw [tNf_3 w.2.1 w.2.2.1 (by have wx := w.2.2.2.1; rcases hmi with u | u; (rw [tNv_y u.2]; omega); (rw [tNv_n u.2]; omega))]
                 exact zxe)
              | (have m_ := t170b
                 rw [tNf_4 w.2.1 w.2.2.1 (by have wx := w.2.2.2.1; rcases hmi with u | u; (rw [tNv_y u.2]; omega); (rw [tNv_n u.2]; omega))]
                 exact hfv.trans w.1)
              | (have m_ := t170
                 rw [tNf_3 w.2.1 w.2.2.1 (by have wx := w.2.2.2.1; rcases hmi with u | u; (rw [tNv_y u.2]; omega); (rw [tNv_n u.2]; omega))]
                 exact zxe)
            · first
              | (have m_ := t150
                 exact hfv.trans w.2.2.symm)
              | (exfalso; omega)
          · intro h9
            rcases hst with w | w
            · first
              | exact absurd w.1 h150
              | (have m_ := t160
                 rw [tNf_3 w.2.1 w.2.2.1 (by have wx := w.2.2.2.1; rcases hmi with u | u; (rw [tNv_y u.2]; omega); (rw [tNv_n u.2]; omega))] at h9
                 omega)
              | (have m_ := t170b
                 refine ⟨w.2.2.2.2, fun hf6 => ?_, fun hf6 => ?_⟩
                 · first
                   | exact zxe.trans (by have wx := w.2.2.2.1; rcases hmi with u | u; (rw [tNv_y u.2]; omega); (rw [tNv_n u.2]; omega))
                   | exact absurd hf6 h185
                 · first
                   | exact ⟨p206hv2.trans (by have wx := w.2.2.2.1; rcases hmi with u | u; (rw [tNv_y u.2]; omega); (rw [tNv_n u.2]; omega)), ((fr 61 _ (by omega) (by omega)).trans rfl)⟩
                   | exact absurd h185 hf6)
              | (have m_ := t170
                 rw [tNf_3 w.2.1 w.2.2.1 (by have wx := w.2.2.2.1; rcases hmi with u | u; (rw [tNv_y u.2]; omega); (rw [tNv_n u.2]; omega))] at h9
                 omega)
            · exfalso
              omega
        · refine ⟨_, (zWi (by omega)), ?_⟩
          refine And.intro (zA_61 hS) ⟨_, (zWi (by omega)), ?_⟩
          refine hQ _ _ ?_ ?_ (fun c j h0 h1 h2 => (zxcj h2 ((fr c j (by omega) (by omega)).trans rfl))) (fun c j h0 => rfl)
          · rcases hst with w | w
            · first
              | exact absurd w.1 h150
              | (have m_ := t160
                 rw [tNf_3 w.2.1 w.2.2.1 (by have wx := w.2.2.2.1; rcases hmi with u | u; (rw [tNv_y u.2]; omega); (rw [tNv_n u.2]; omega))]
                 exact zxe)
              | (have m_ := t170b
                 rw [tNf_4 w.2.1 w.2.2.1 (by have wx := w.2.2.2.1; rcases hmi with u | u; (rw [tNv_y u.2]; omega); (rw [tNv_n u.2]; omega))]
                 exact hfv.trans w.1)
              | (have m_ := t170
                 rw [tNf_3 w.2.1 w.2.2.1 (by have wx := w.2.2.2.1; rcases hmi with u | u; (rw [tNv_y u.2]; omega); (rw [tNv_n u.2]; omega))]
                 exact zxe)
            · first
              | (have m_ := t150
                 exact hfv.trans w.2.2.symm)
              | (exfalso; omega)
          · intro h9
            rcases hst with w | w
            · first
              | exact absurd w.1 h150
              | (have m_ := t160
                 rw [tNf_3 w.2.1 w.2.2.1 (by have wx := w.2.2.2.1; rcases hmi with u | u; (rw [tNv_y u.2]; omega); (rw [tNv_n u.2]; omega))] at h9
                 omega)
              | (have m_ := t170b
                 refine ⟨w.2.2.2.2, fun hf6 => ?_, fun hf6 => ?_⟩
                 · first
                   | exact zxe.trans (by have wx := w.2.2.2.1; rcases hmi with u | u; (rw [tNv_y u.2]; omega); (rw [tNv_n u.2]; omega))
                   | exact absurd hf6 h185
                 · first
                   | exact ⟨p206hv2.trans (by have wx := w.2.2.2.1; rcases hmi with u | u; (rw [tNv_y u.2]; omega); (rw [tNv_n u.2]; omega)), (zxcj (by omega) ((fr 61 _ (by omega) (by omega)).trans rfl))⟩
                   | exact absurd h185 hf6)
              | (have m_ := t170
                 rw [tNf_3 w.2.1 w.2.2.1 (by have wx := w.2.2.2.1; rcases hmi with u | u; (rw [tNv_y u.2]; omega); (rw [tNv_n u.2]; omega))] at h9
                 omega)
            · exfalso
              omega
      · refine ⟨_, sn_K_lst.up (by decide), ?_⟩
        refine ⟨(f : Int), rfl, (by omega), ?_⟩
        intro v156o p156hv p156bhv2
        refine ⟨_, _, ⟨zW6i (by omega), zW6i (by omega)⟩, fun z159 c159 => ?_⟩
        refine And.intro c159.2.2 ⟨fun h160 => ?_, fun h160 => ?_⟩
        · have t160 : (1 : Int) ≤ 2 := (by decide)
          refine And.intro (zA_61 hS) (Exists.intro _ (And.intro (zinl_ok (zT9_2 1)) (And.intro rfl ?_)))
          refine And.intro (zA_61 hS) (zrd (v := fv) hfv ?_)
          refine And.intro ⟨(by omega), (zRb rfl)⟩ ⟨(fun h5_176 => False.elim (by omega)), fun h5_176 => ?_⟩
          refine And.intro (zA_61 hS) ⟨_, (zWi (by omega)), ?_⟩
          refine hQ _ _ ?_ ?_ (fun c j h0 h1 h2 => (zxcj h1 ((fr c j (by omega) (by omega)).trans rfl))) (fun c j h0 => rfl)
          · rcases hst with w | w
            · first
              | exact absurd w.1 h150
              | (have m_ := t160
                 rw [tNf_3 w.2.1 w.2.2.1 (by have wx := w.2.2.2.1; rcases hmi with u | u; (rw [tNv_y u.2]; omega); (rw [tNv_n u.2]; omega))]
                 exact zxe)
              | (have m_ := t170b
                 rw [tNf_4 w.2.1 w.2.2.1 (by have wx := w.2.2.2.1; rcases hmi with u | u; (rw [tNv_y u.2]; omega); (rw [tNv_n u.2]; omega))]
                 exact hfv.trans w.1)
              | (have m_ := t170
                 rw [tNf_3 w.2.1 w.2.2.1 (by have wx := w.2.2.2.1; rcases hmi with u | u; (rw [tNv_y u.2]; omega); (rw [tNv_n u.2]; omega))]
                 exact zxe)
            · first
              | (have m_ := t150
                 exact hfv.trans w.2.2.symm)
              | (exfalso; omega)
          · intro h9
            rcases hst with w | w
            · first
              | exact absurd w.1 h150
              | (have m_ := t160
                 rw [tNf_3 w.2.1 w.2.2.1 (by have wx := w.2.2.2.1; rcases hmi with u | u; (rw [tNv_y u.2]; omega); (rw [tNv_n u.2]; omega))] at h9
                 omega)
              | (have m_ := t170b
                 refine ⟨w.2.2.2.2, fun hf6 => ?_, fun hf6 => ?_⟩
                 · first
                   | exact zxe.trans (by have wx := w.2.2.2.1; rcases hmi with u | u; (rw [tNv_y u.2]; omega); (rw [tNv_n u.2]; omega))
                   | exact absurd hf6 h185
                 · first
                   | exact ⟨p206hv2.trans (by have wx := w.2.2.2.1; rcases hmi with u | u; (rw [tNv_y u.2]; omega); (rw [tNv_n u.2]; omega)), (zxcj (by omega) ((fr 61 _ (by omega) (by omega)).trans rfl))⟩
                   | exact absurd h185 hf6)
              | (have m_ := t170
                 rw [tNf_3 w.2.1 w.2.2.1 (by have wx := w.2.2.2.1; rcases hmi with u | u; (rw [tNv_y u.2]; omega); (rw [tNv_n u.2]; omega))] at h9
                 omega)
            · exfalso
              omega
        · refine ⟨_, sn_K_grt.up (by decide), ?_⟩
          refine ⟨(f : Int), rfl, (by omega), ?_⟩
          intro v166o p166hv p166bhv2
          refine ⟨_, _, ⟨zW6i (by omega), zW6i (by omega)⟩, fun z169 c169 => ?_⟩
          refine And.intro c169.2.2 ⟨fun h170 => ?_, (fun h170 => False.elim (by omega))⟩
          have t170 : (1 : Int) ≤ 2 := (by decide)
          have t170b : (1 : Int) ≤ 2 := (by decide)
          refine And.intro ⟨(by omega), (zRb rfl)⟩ ⟨fun h185 => ?_, fun h185 => ?_⟩
          · refine And.intro (zA_61 hS) (zrdR (v := some k) hob ?_)
            refine And.intro (zDX hD 0 rfl) ⟨_, sn_O_set.up (by decide), ?_⟩
            refine ⟨k, a9, (a_ : Int), a_, (w_ : Int), w_, ((-x) : Int), rfl, hS, hR, hD, ((fr k 0 (by omega) (by omega)).trans ho0), (by omega), (by omega), (by omega), (by omega), ?_⟩
            intro L206o p206hv2 p206bfr
            refine hQ _ _ ?_ ?_ (fun c j h0 h1 h2 => ((fr c j (by omega) (by omega)).trans rfl)) (fun c j h0 => ((p206bfr c j (by omega)).trans rfl))
            · rcases hst with w | w
              · first
                | exact absurd w.1 h150
                | (have m_ := t160
                   rw [tNf_3 w.2.1 w.2.2.1 (by have wx := w.2.2.2.1; rcases hmi with u | u; (rw [tNv_y u.2]; omega); (rw [tNv_n u.2]; omega))]
                   exact zxe)
                | (have m_ := t170b
                   rw [tNf_4 w.2.1 w.2.2.1 (by have wx := w.2.2.2.1; rcases hmi with u | u; (rw [tNv_y u.2]; omega); (rw [tNv_n u.2]; omega))]
                   exact hfv.trans w.1)
                | (have m_ := t170
                   rw [tNf_3 w.2.1 w.2.2.1 (by have wx := w.2.2.2.1; rcases hmi with u | u; (rw [tNv_y u.2]; omega); (rw [tNv_n u.2]; omega))]
                   exact zxe)
              · first
                | (have m_ := t150
                   exact hfv.trans w.2.2.symm)
                | (exfalso; omega)
            · intro h9
              rcases hst with w | w
              · first
                | exact absurd w.1 h150
                | (have m_ := t160
                   rw [tNf_3 w.2.1 w.2.2.1 (by have wx := w.2.2.2.1; rcases hmi with u | u; (rw [tNv_y u.2]; omega); (rw [tNv_n u.2]; omega))] at h9
                   omega)
                | (have m_ := t170b
                   refine ⟨w.2.2.2.2, fun hf6 => ?_, fun hf6 => ?_⟩
                   · first
                     | exact zxe.trans (by have wx := w.2.2.2.1; rcases hmi with u | u; (rw [tNv_y u.2]; omega); (rw [tNv_n u.2]; omega))
                     | exact absurd hf6 h185
                   · first
                     | exact ⟨p206hv2.trans (by have wx := w.2.2.2.1; rcases hmi with u | u; (rw [tNv_y u.2]; omega); (rw [tNv_n u.2]; omega)), ((fr 61 _ (by omega) (by omega)).trans rfl)⟩
                     | exact absurd h185 hf6)
                | (have m_ := t170
                   rw [tNf_3 w.2.1 w.2.2.1 (by have wx := w.2.2.2.1; rcases hmi with u | u; (rw [tNv_y u.2]; omega); (rw [tNv_n u.2]; omega))] at h9
                   omega)
              · exfalso
                omega
          · refine ⟨_, (zWi (by omega)), ?_⟩
            refine And.intro (zA_61 hS) ⟨_, (zWi (by omega)), ?_⟩
            refine hQ _ _ ?_ ?_ (fun c j h0 h1 h2 => (zxcj h2 ((fr c j (by omega) (by omega)).trans rfl))) (fun c j h0 => rfl)
            · rcases hst with w | w
              · first
                | exact absurd w.1 h150
                | (have m_ := t160
                   rw [tNf_3 w.2.1 w.2.2.1 (by have wx := w.2.2.2.1; rcases hmi with u | u; (rw [tNv_y u.2]; omega); (rw [tNv_n u.2]; omega))]
                   exact zxe)
                | (have m_ := t170b
                   rw [tNf_4 w.2.1 w.2.2.1 (by have wx := w.2.2.2.1; rcases hmi with u | u; (rw [tNv_y u.2]; omega); (rw [tNv_n u.2]; omega))]
                   exact hfv.trans w.1)
                | (have m_ := t170
                   rw [tNf_3 w.2.1 w.2.2.1 (by have wx := w.2.2.2.1; rcases hmi with u | u; (rw [tNv_y u.2]; omega); (rw [tNv_n u.2]; omega))]
                   exact zxe)
              · first
                | (have m_ := t150
                   exact hfv.trans w.2.2.symm)
                | (exfalso; omega)
            · intro h9
              rcases hst with w | w
              · first
                | exact absurd w.1 h150
                | (have m_ := t160
                   rw [tNf_3 w.2.1 w.2.2.1 (by have wx := w.2.2.2.1; rcases hmi with u | u; (rw [tNv_y u.2]; omega); (rw [tNv_n u.2]; omega))] at h9
                   omega)
                | (have m_ := t170b
                   refine ⟨w.2.2.2.2, fun hf6 => ?_, fun hf6 => ?_⟩
                   · first
                     | exact zxe.trans (by have wx := w.2.2.2.1; rcases hmi with u | u; (rw [tNv_y u.2]; omega); (rw [tNv_n u.2]; omega))
                     | exact absurd hf6 h185
                   · first
                     | exact ⟨p206hv2.trans (by have wx := w.2.2.2.1; rcases hmi with u | u; (rw [tNv_y u.2]; omega); (rw [tNv_n u.2]; omega)), (zxcj (by omega) ((fr 61 _ (by omega) (by omega)).trans rfl))⟩
                     | exact absurd h185 hf6)
                | (have m_ := t170
                   rw [tNf_3 w.2.1 w.2.2.1 (by have wx := w.2.2.2.1; rcases hmi with u | u; (rw [tNv_y u.2]; omega); (rw [tNv_n u.2]; omega))] at h9
                   omega)
              · exfalso
                omega)
