/-! xv -/
def T_X_fno : ZT := fun args I L R S Q => ∃ (k : Nat) (w : List CuR), args = [zvr k, zvi 0] ∧ (zSh S) ∧ (zRs R) ∧ (zDy zT16 zF16 k R S) ∧ (zDh k w I L) ∧ (w.length ≤ 60) ∧ (cuG w) ∧ ∀ (I' : ZI) (L' : ZI), (I' k 13 = cuHc w) → (∀ p : Nat, p < cuHc w → I' (k + 14) p = cuOr w p) → (∀ c j : Nat, ¬ (c = k ∧ j = 13) → ¬ c = k + 13 → ¬ c = k + 14 → I' c j = I c j) → (∀ c j : Nat, ¬ c = k + 15 → L' c j = L c j) → Q none I' L' R S
theorem sn_X_fno : ZSnd 5 16 7 T_X_fno := ZSnd.of (zT16_7 4) (by
  rintro args I L R S Q hz ⟨k, w, rfl, hS, hR, hd, hDh, hl, hG, hQ⟩
  have hk5 := hd.1
  obtain ⟨⟨hh4, hh1⟩, hhi⟩ := id hDh
  have hc60 := cuHc_l hl
  refine And.intro rfl ?_
  refine And.intro (zDX hd 0 rfl) ⟨_, sn_X_col.up (by decide), ?_⟩
  refine ⟨_, w, rfl, hS, hR, hd, (by first | exact (zDh_fr hDh (fun c j h => rfl) (fun c j h => rfl)) | (clear hQ; grind [xu])), (by omega), ?_⟩
  intro I2o p2hm p2bhrow p2bbfr
  refine And.intro (zDX hd 0 rfl) (zrd (v := (cuHc w)) p2hm ?_)
  refine And.intro ⟨(by omega), (zRb rfl)⟩ ⟨fun h11 => ?_, fun h11 => ?_⟩
  · refine And.intro (zDX hd 0 rfl) ⟨_, sn_X_exa.up (by decide), ?_⟩
    refine ⟨_, w, rfl, hS, hR, hd, (by first | exact (zDh_fr hDh (fun c j h => ((p2bbfr c j (by omega) (by omega)).trans rfl)) (fun c j h => rfl)) | (clear hQ; grind [xu])), (by omega), (by first | exact hG | (clear hQ; grind [xu])), (Eq.trans (b := ((cuHc w) : Int)) p2hm (by omega)), p2bhrow, (by omega), ?_⟩
    intro I22o L22o p22ho p22bfr p22bbfrL
    refine hQ _ _ (by first | exact (p15bfr k 13 (by omega) (by omega)).trans p2hm | exact (p22bfr k 13 (by omega)).trans p2hm) (by first | exact p15ho | exact p22ho) (fun c j h0 h1 h2 => ((p22bfr c j h2).trans ((p2bbfr c j h0 h1).trans rfl))) (fun c j h0 => ((p22bbfrL c j h0).trans rfl))
  · refine And.intro (zDX hd 0 rfl) ⟨_, sn_X_nea.up (by decide), ?_⟩
    refine ⟨_, w, rfl, hS, hR, hd, (by first | exact (zDh_fr hDh (fun c j h => ((p2bbfr c j (by omega) (by omega)).trans rfl)) (fun c j h => rfl)) | (clear hQ; grind [xu])), (by omega), (by first | exact hG | (clear hQ; grind [xu])), (Eq.trans (b := ((cuHc w) : Int)) p2hm (by omega)), p2bhrow, (by omega), ?_⟩
    intro I15o p15ho p15bfr
    refine hQ _ _ (by first | exact (p15bfr k 13 (by omega) (by omega)).trans p2hm | exact (p22bfr k 13 (by omega)).trans p2hm) (by first | exact p15ho | exact p22ho) (fun c j h0 h1 h2 => ((p15bfr c j h1 h2).trans ((p2bbfr c j h0 h1).trans rfl))) (fun c j h0 => rfl))
def T_X_ord : ZT := fun args I L R S Q => ∃ (k : Nat) (w : List CuR) (p : Nat), args = [zvr k, zvi 0, zvi p] ∧ (zSh S) ∧ (zRs R) ∧ (zDy zT16 zF16 k R S) ∧ (zDh k w I L) ∧ (w.length ≤ 60) ∧ (cuG w) ∧ (p < cuHc w) ∧ ∀ (v : Int) (I' : ZI) (L' : ZI), (v = cuOr w p) → (0 ≤ v ∧ v < cuHc w) → (∀ c j : Nat, ¬ (c = k ∧ j = 0) → ¬ (c = k ∧ j = 13) → ¬ c = k + 13 → ¬ c = k + 14 → I' c j = I c j) → (∀ c j : Nat, ¬ c = k + 15 → L' c j = L c j) → Q (some (zvi (v))) I' L' R S
theorem sn_X_ord : ZSnd 6 16 18 T_X_ord := ZSnd.of (zT16_18 5) (by
  rintro args I L R S Q hz ⟨k, w, p, rfl, hS, hR, hd, hDh, hl, hG, hp, hQ⟩
  have hk5 := hd.1
  obtain ⟨⟨hh4, hh1⟩, hhi⟩ := id hDh
  have hc60 := cuHc_l hl
  refine And.intro rfl ?_
  refine And.intro (zDX hd 0 rfl) (Exists.intro _ (And.intro (zinl_ok (zT16_14 4)) (And.intro rfl ?_)))
  refine And.intro (zRb rfl) (zbf rfl ?_)
  refine And.intro (zDX hd 0 rfl) (zrdR (v := some (k + 1)) (zDR hd 0 rfl) ?_)
  refine And.intro (zDP hd 1 rfl rfl (by omega) (by omega)) (zrd (v := 1) hh1 ?_)
  refine And.intro ⟨(zRb rfl), (zRb rfl)⟩ (zbf rfl ?_)
  refine And.intro (Or.inr rfl) ?_
  refine And.intro (zRb rfl) (zbf rfl ?_)
  refine And.intro (zDX hd 0 rfl) ⟨_, (zWi (zRb rfl)), ?_⟩
  refine And.intro (zDX hd 0 rfl) (zrd (v := 0) zxe ?_)
  refine And.intro (zRb rfl) (zbt rfl ?_)
  refine And.intro (zDX hd 0 rfl) ⟨_, sn_X_fno.up (by decide), ?_⟩
  refine ⟨_, w, rfl, hS, hR, hd, (by first | exact (zDh_fr hDh (fun c j h => (zxcj (by omega) rfl)) (fun c j h => rfl)) | (clear hQ; grind [xu])), (by omega), (by first | exact hG | (clear hQ; grind [xu])), ?_⟩
  intro I28o L28o p28hm p28bho p28bbfr p28bbbfrL
  refine And.intro (by omega) ⟨(fun h32 => False.elim (by omega)), fun h32 => ?_⟩
  refine And.intro (zDX hd 0 rfl) (zrd (v := (cuHc w)) p28hm ?_)
  refine And.intro ⟨(by omega), (by omega)⟩ ⟨(fun h40 => False.elim (by omega)), fun h40 => ?_⟩
  refine And.intro (zDX hd 0 rfl) (zrdR (v := some (k + 14)) (zDR hd 13 rfl) ?_)
  refine And.intro (zDP hd 14 rfl rfl (by omega) (by omega)) (fun v48 e48 r48 => ?_)
  have f48 : v48 = cuOr w p := (e48.trans (p28bho p hp))
  have f48b : 0 ≤ v48 ∧ v48 + 1 ≤ cuHc w := (by have z := cuOr_b (w := w) hp; omega)
  refine hQ _ _ _ (by omega) (by omega) (fun c j h0 h1 h2 h3 => ((p28bbfr c j h1 h2 h3).trans (zxcj h0 rfl))) (fun c j h0 => ((p28bbbfrL c j h0).trans rfl)))
def T_X_too : ZT := fun args I L R S Q => ∃ (k : Nat), args = [zvr k, zvl 300, zvi 1] ∧ (zSh S) ∧ (zRs R) ∧ (zDy zT16 zF16 k R S) ∧ (I (k + 1) 0 = 0) ∧ ∀ (v : Int) (I' : ZI) (L' : ZI), (I' (k + 1) 0 = 1) → (L' (k + 2) 0 = 300 ∧ I' (k + 3) 0 = 1) → (∀ c j : Nat, ¬ (c = k ∧ j = 0) → ¬ (c = k + 1 ∧ j = 0) → ¬ (c = k + 3 ∧ j = 0) → I' c j = I c j) → (∀ c j : Nat, ¬ (c = k + 2 ∧ j = 0) → L' c j = L c j) → Q (some (zvi (v))) I' L' R S
theorem sn_X_too : ZSnd 2 16 29 T_X_too := ZSnd.of (zT16_29 1) (by
  rintro args I L R S Q hz ⟨k, rfl, hS, hR, hd, h1, hQ⟩
  have hk5 := hd.1
  refine And.intro rfl ?_
  refine Exists.intro _ (And.intro (zinl_ok (zT16_10 0)) (And.intro rfl ?_))
  refine ⟨_, _, ⟨zW6i (zRL rfl), zW6i (zRL rfl)⟩, fun z2_2 c2_2 => ?_⟩
  refine And.intro c2_2.2.2 ⟨(fun h3_2 => False.elim (by omega)), fun h3_2 => ?_⟩
  refine ⟨_, _, ⟨zW6i (zRL rfl), zW6i (zRL rfl)⟩, fun z10_2 c10_2 => ?_⟩
  refine And.intro c10_2.2.2 ⟨(fun h11_2 => False.elim (by omega)), fun h11_2 => ?_⟩
  refine And.intro (Or.inr rfl) ?_
  refine And.intro (zRb rfl) (zbf rfl ?_)
  refine And.intro (zDX hd 0 rfl) ⟨_, (zWi (zRb rfl)), ?_⟩
  refine And.intro (zDX hd 0 rfl) (zrd (v := 0) zxe ?_)
  refine And.intro (zRb rfl) (zbt rfl ?_)
  refine And.intro (zDX hd 0 rfl) (zrdR (v := some (k + 1)) (zDR hd 0 rfl) ?_)
  refine And.intro (zDP hd 1 rfl rfl (by omega) (by omega)) (zrd (v := 0) (zxu (by omega) h1) ?_)
  refine And.intro ⟨(zRb rfl), (zRb rfl)⟩ (zbt rfl ?_)
  refine And.intro (zDX hd 0 rfl) (Exists.intro _ (And.intro (zinl_ok (zT16_1 0)) (And.intro rfl ?_)))
  refine And.intro (zDX hd 0 rfl) (zrdR (v := some (k + 2)) (zDR hd 1 rfl) ?_)
  refine And.intro (zDX hd 0 rfl) (zrdR (v := some (k + 1)) (zDR hd 0 rfl) ?_)
  refine And.intro (zDP hd 1 rfl rfl (by omega) (by omega)) (zrd (v := 0) (zxu (by omega) h1) ?_)
  refine And.intro ⟨(by show 40 ≤ _; omega), (zDP hd 2 rfl rfl (by omega) (by omega))⟩ ⟨_, zW6i (zRL rfl), ?_⟩
  refine And.intro (zDX hd 0 rfl) (zrdR (v := some (k + 3)) (zDR hd 2 rfl) ?_)
  refine And.intro (zDX hd 0 rfl) (zrdR (v := some (k + 1)) (zDR hd 0 rfl) ?_)
  refine And.intro (zDP hd 1 rfl rfl (by omega) (by omega)) (zrd (v := 0) (zxu (by omega) h1) ?_)
  refine And.intro ⟨(by show 40 ≤ _; omega), Or.inr ⟨(zDP hd 3 rfl rfl (by omega) (by omega)), (Or.inr rfl)⟩⟩ ?_
  refine And.intro (zDX hd 0 rfl) (zrdR (v := some (k + 1)) (zDR hd 0 rfl) ?_)
  refine And.intro (zDP hd 1 rfl rfl (by omega) (by omega)) (zrd (v := 0) (zxu (by omega) (zxu (by omega) h1)) ?_)
  refine And.intro ⟨(by show 40 ≤ _; omega), (zDP hd 1 rfl rfl (by omega) (by omega))⟩ ⟨_, (zWi (zRb rfl)), ?_⟩
  refine And.intro (zDX hd 0 rfl) (zrdR (v := some (k + 1)) (zDR hd 0 rfl) ?_)
  refine And.intro (zDP hd 1 rfl rfl (by omega) (by omega)) (zrd (v := (0 + 1)) zxe ?_)
  refine hQ _ _ _ (by first | exact zxe | exact zxe.trans (by omega)) ⟨zxe, zxu (by omega) zxe⟩ (fun c j h0 h1 h2 => (zxcj (by omega) (zxcj (by omega) (zxcj h0 rfl)))) (fun c j h0 => (zxcj (by omega) rfl)))
def T_X_hol : ZT := fun args I L R S Q => ∃ (k : Nat) (n : Nat) (x : Int) (y : Int) (l : Int), args = [zvr k, zvi 0, zvl x, zvl y, zvi l, zvi (l + 1)] ∧ (zSh S) ∧ (zRs R) ∧ (zDy zT16 zF16 k R S) ∧ (I (k + 1) 0 = 1) ∧ (I (k + 4) 0 = n) ∧ (n ≤ 59) ∧ ((0 ≤ x ∧ x ≤ 15000) ∧ (0 ≤ y ∧ y ≤ 15000) ∧ 0 ≤ l ∧ l ≤ 3) ∧ ∀ (v : Int) (I' : ZI) (L' : ZI), (I' (k + 4) 0 = n + 1) → ((I' (k + 5) n = 0 ∧ I' (k + 10) n = l ∧ I' (k + 11) n = l + 1) ∧ (L' (k + 6) n = x ∧ L' (k + 7) n = y) ∧ L' (k + 8) n = x ∧ L' (k + 9) n = y) → (∀ c j : Nat, ¬ (c = k ∧ j = 0) → ¬ (c = k + 4 ∧ j = 0) → ¬ (c = k + 5 ∧ j = n) → ¬ (c = k + 10 ∧ j = n) → ¬ (c = k + 11 ∧ j = n) → ¬ (c = k + 12 ∧ j = n) → I' c j = I c j) → (∀ c j : Nat, ¬ (c = k + 6 ∧ j = n) → ¬ (c = k + 7 ∧ j = n) → ¬ (c = k + 8 ∧ j = n) → ¬ (c = k + 9 ∧ j = n) → L' c j = L c j) → Q (some (zvi (v))) I' L' R S
theorem sn_X_hol : ZSnd 2 16 8 T_X_hol := ZSnd.of (zT16_8 1) (by
  rintro args I L R S Q hz ⟨k, n, x, y, l, rfl, hS, hR, hd, h1, h4, hn, hb, hQ⟩
  have hk5 := hd.1
  refine And.intro rfl ?_
  refine And.intro (zDX hd 0 rfl) (Exists.intro _ (And.intro (zinl_ok (zT16_14 0)) (And.intro rfl ?_)))
  refine And.intro (zRb rfl) (zbf rfl ?_)
  refine And.intro (zDX hd 0 rfl) (zrdR (v := some (k + 1)) (zDR hd 0 rfl) ?_)
  refine And.intro (zDP hd 1 rfl rfl (by omega) (by omega)) (zrd (v := 1) h1 ?_)
  refine And.intro ⟨(zRb rfl), (zRb rfl)⟩ (zbf rfl ?_)
  refine And.intro (Or.inr rfl) ?_
  refine And.intro (zRb rfl) (zbf rfl ?_)
  refine And.intro (by omega) ?_
  refine Exists.intro _ (And.intro (zinl_ok (zT16_12 0)) (And.intro rfl ?_))
  refine ⟨_, _, ⟨zW6i (by omega), zW6i (zRL rfl)⟩, fun z2_12 c2_12 => ?_⟩
  refine And.intro c2_12.2.2 ⟨(fun h3_12 => False.elim (by omega)), fun h3_12 => ?_⟩
  refine ⟨_, _, ⟨zW6i (by omega), zW6i (zRL rfl)⟩, fun z10_12 c10_12 => ?_⟩
  refine And.intro c10_12.2.2 ⟨(fun h11_12 => False.elim (by omega)), fun h11_12 => ?_⟩
  refine And.intro (Or.inr rfl) ?_
  refine And.intro (zRb rfl) (zbf rfl ?_)
  refine And.intro (by omega) ?_
  refine Exists.intro _ (And.intro (zinl_ok (zT16_12 0)) (And.intro rfl ?_))
  refine ⟨_, _, ⟨zW6i (by omega), zW6i (zRL rfl)⟩, fun z2_21 c2_21 => ?_⟩
  refine And.intro c2_21.2.2 ⟨(fun h3_21 => False.elim (by omega)), fun h3_21 => ?_⟩
  refine ⟨_, _, ⟨zW6i (by omega), zW6i (zRL rfl)⟩, fun z10_21 c10_21 => ?_⟩
  refine And.intro c10_21.2.2 ⟨(fun h11_21 => False.elim (by omega)), fun h11_21 => ?_⟩
  refine And.intro (Or.inr rfl) ?_
  refine And.intro (zRb rfl) (zbt rfl ?_)
  refine Exists.intro _ (And.intro (zinl_ok (zT16_13 0)) (And.intro rfl ?_))
  refine ⟨_, _, ⟨zW6i (by omega), zW6i (zRL rfl)⟩, fun z4_34 c4_34 => ?_⟩
  refine And.intro c4_34.2.2 ⟨(fun h5_34 => False.elim (by omega)), fun h5_34 => ?_⟩
  refine ⟨_, _, ⟨zW6i (by omega), zW6i (zRL rfl)⟩, fun z12_34 c12_34 => ?_⟩
  refine And.intro c12_34.2.2 ⟨(fun h13_34 => False.elim (by omega)), fun h13_34 => ?_⟩
  refine ⟨_, _, ⟨zW6i (by omega), zW6i (zRL rfl)⟩, fun z20_34 c20_34 => ?_⟩
  refine And.intro c20_34.2.2 ⟨(fun h21_34 => False.elim (by omega)), fun h21_34 => ?_⟩
  refine ⟨_, _, ⟨zW6i (by omega), zW6i (zRL rfl)⟩, fun z28_34 c28_34 => ?_⟩
  refine And.intro c28_34.2.2 ⟨(fun h29_34 => False.elim (by omega)), fun h29_34 => ?_⟩
  refine And.intro (Or.inr rfl) ?_
  refine And.intro (zRb rfl) (zbf rfl ?_)
  refine And.intro ⟨(by omega), (by omega)⟩ ⟨(fun h44 => False.elim (by omega)), fun h44 => ?_⟩
  refine And.intro (zDX hd 0 rfl) ⟨_, (zWi (zRb rfl)), ?_⟩
  refine And.intro (zDX hd 0 rfl) (zrd (v := 0) zxe ?_)
  refine And.intro (zRb rfl) (zbt rfl ?_)
  refine And.intro (zDX hd 0 rfl) (zrdR (v := some (k + 4)) (zDR hd 3 rfl) ?_)
  refine And.intro (zDP hd 4 rfl rfl (by omega) (by omega)) (zrd (v := n) (zxu (by omega) h4) ?_)
  refine And.intro ⟨(by omega), (zRb rfl)⟩ ⟨fun h72 => ?_, (fun h72 => False.elim (by omega))⟩
  refine And.intro (zDX hd 0 rfl) (Exists.intro _ (And.intro (zinl_ok (zT16_0 0)) (And.intro rfl ?_)))
  refine And.intro (zDX hd 0 rfl) (zrdR (v := some (k + 4)) (zDR hd 3 rfl) ?_)
  refine And.intro (zDP hd 4 rfl rfl (by omega) (by omega)) (zrd (v := n) (zxu (by omega) h4) ?_)
  refine And.intro (zDX hd 0 rfl) (zrdR (v := some (k + 5)) (zDR hd 4 rfl) ?_)
  refine And.intro ⟨(by show 40 ≤ _; omega), (zDP hd 5 rfl rfl (by omega) (by omega))⟩ ⟨_, (zWi (zRb rfl)), ?_⟩
  refine And.intro (zDX hd 0 rfl) (zrdR (v := some (k + 6)) (zDR hd 5 rfl) ?_)
  refine And.intro ⟨(by show 40 ≤ _; omega), (zDP hd 6 rfl rfl (by omega) (by omega))⟩ ⟨_, zW6i (by omega), ?_⟩
  refine And.intro (zDX hd 0 rfl) (zrdR (v := some (k + 7)) (zDR hd 6 rfl) ?_)
  refine And.intro ⟨(by show 40 ≤ _; omega), (zDP hd 7 rfl rfl (by omega) (by omega))⟩ ⟨_, zW6i (by omega), ?_⟩
  refine And.intro (zDX hd 0 rfl) (zrdR (v := some (k + 8)) (zDR hd 7 rfl) ?_)
  refine And.intro ⟨(by show 40 ≤ _; omega), (zDP hd 8 rfl rfl (by omega) (by omega))⟩ ⟨_, zW6i (by omega), ?_⟩
  refine And.intro (zDX hd 0 rfl) (zrdR (v := some (k + 9)) (zDR hd 8 rfl) ?_)
  refine And.intro ⟨(by show 40 ≤ _; omega), (zDP hd 9 rfl rfl (by omega) (by omega))⟩ ⟨_, zW6i (by omega), ?_⟩
  refine And.intro (zDX hd 0 rfl) (zrdR (v := some (k + 10)) (zDR hd 9 rfl) ?_)
  refine And.intro ⟨(by show 40 ≤ _; omega), (zDP hd 10 rfl rfl (by omega) (by omega))⟩ ⟨_, (zWi (by omega)), ?_⟩
  refine And.intro (zDX hd 0 rfl) (zrdR (v := some (k + 11)) (zDR hd 10 rfl) ?_)
  refine And.intro ⟨(by show 40 ≤ _; omega), (zDP hd 11 rfl rfl (by omega) (by omega))⟩ ⟨_, (zWi (by omega)), ?_⟩
  refine And.intro (zDX hd 0 rfl) (zrdR (v := some (k + 12)) (zDR hd 11 rfl) ?_)
  refine And.intro ⟨(by show 40 ≤ _; omega), Or.inr ⟨(zDP hd 12 rfl rfl (by omega) (by omega)), (Or.inl rfl)⟩⟩ ?_
  refine And.intro (zDX hd 0 rfl) (zrdR (v := some (k + 4)) (zDR hd 3 rfl) ?_)
  refine And.intro (zDP hd 4 rfl rfl (by omega) (by omega)) (zrd (v := n) (zxu (by omega) (zxu (by omega) (zxu (by omega) (zxu (by omega) (zxu (by omega) h4))))) ?_)
  refine And.intro ⟨(by show 40 ≤ _; omega), (zDP hd 4 rfl rfl (by omega) (by omega))⟩ ⟨_, (zWi (by omega)), ?_⟩
  refine And.intro (zDX hd 0 rfl) (zrdR (v := some (k + 4)) (zDR hd 3 rfl) ?_)
  refine And.intro (zDP hd 4 rfl rfl (by omega) (by omega)) (zrd (v := (n + 1)) zxe ?_)
  refine hQ _ _ _ (by first | exact zxe | exact zxe.trans (by omega)) ⟨⟨(by repeat (first | exact zxe | exact zxe' (by omega) | exact (zxe' (by omega)).trans (by omega) | refine zxu (by omega) ?_ | refine zxs (by omega) ?_)), (by repeat (first | exact zxe | exact zxe' (by omega) | exact (zxe' (by omega)).trans (by omega) | refine zxu (by omega) ?_ | refine zxs (by omega) ?_)), (by repeat (first | exact zxe | exact zxe' (by omega) | exact (zxe' (by omega)).trans (by omega) | refine zxu (by omega) ?_ | refine zxs (by omega) ?_))⟩, ⟨(by repeat (first | exact zxe | exact zxe' (by omega) | exact (zxe' (by omega)).trans (by omega) | refine zxu (by omega) ?_ | refine zxs (by omega) ?_)), (by repeat (first | exact zxe | exact zxe' (by omega) | exact (zxe' (by omega)).trans (by omega) | refine zxu (by omega) ?_ | refine zxs (by omega) ?_))⟩, (by repeat (first | exact zxe | exact zxe' (by omega) | exact (zxe' (by omega)).trans (by omega) | refine zxu (by omega) ?_ | refine zxs (by omega) ?_)), (by repeat (first | exact zxe | exact zxe' (by omega) | exact (zxe' (by omega)).trans (by omega) | refine zxu (by omega) ?_ | refine zxs (by omega) ?_))⟩ (fun c j h0 h1 h2 h3 h4 h5 => (zxcj (by omega) (zxcj (by omega) (zxcj (by omega) (zxcj (by omega) (zxcj (by omega) (zxcj h0 rfl))))))) (fun c j h0 h1 h2 h3 => (zxcj (by omega) (zxcj (by omega) (zxcj (by omega) (zxcj (by omega) rfl))))))
