/-! ye -/
def T_V_cor2 : ZT := fun args I L R S Q => ∃ (k : Nat) (n : Nat) (a : Int) (s : Nat) (e : Nat) (p : Int) (q : Int), args = [zvr k, zvi a, zvl p, zvl q] ∧ (zSh S) ∧ (zRs R) ∧ (zDy zT14 zF14 k R S) ∧ (a = s) ∧ (I k 2 = n) ∧ ((s < n ∧ n ≤ 60) ∧ e ≤ 1 ∧ (0 ≤ p ∧ p ≤ 15000) ∧ 0 ≤ q ∧ q ≤ 15000) ∧ (L (k + 8) s = 0) ∧ (I (k + 5) s = e) ∧ (e = 1 → (L (k + 6) (8 * s) ≠ p ∨ L (k + 7) (8 * s) ≠ q)) ∧ ∀ (v : Int) (I' : ZI) (L' : ZI), (I' (k + 5) s = e + 1) → (L' (k + 6) (8 * s + e) = p) → (L' (k + 7) (8 * s + e) = q) → (∀ c j : Nat, ¬ (c = k ∧ j = 0) → ¬ (c = k + 5 ∧ j = s) → I' c j = I c j) → (∀ c j : Nat, ¬ (c = k + 6 ∧ j = 8 * s + e) → ¬ (c = k + 7 ∧ j = 8 * s + e) → L' c j = L c j) → Q (some (zvi (v))) I' L' R S
theorem sn_V_cor2 : ZSnd 2 14 4 T_V_cor2 := ZSnd.of (zT14_4 1) (by
  rintro args I L R S Q hz ⟨k, n, a, s, e, p, q, rfl, hS, hR, hd, hs, hn, hb, h8, h5, hne, hQ⟩
  have hk5 := hd.1
  refine And.intro rfl ?_
  refine And.intro (zDX hd 0 rfl) (Exists.intro _ (And.intro (zinl_ok (zT14_20 0)) (And.intro rfl ?_)))
  refine And.intro (by omega) ⟨(fun h1_3 => False.elim (by omega)), fun h1_3 => ?_⟩
  refine And.intro (zDX hd 0 rfl) (zrd (v := n) hn ?_)
  refine And.intro ⟨(by omega), (by omega)⟩ ⟨(fun h9_3 => False.elim (by omega)), fun h9_3 => ?_⟩
  refine And.intro (Or.inr rfl) ?_
  refine And.intro (zRb rfl) (zbt rfl ?_)
  refine And.intro (zDX hd 0 rfl) (zrdR (v := some (k + 8)) (zDR hd 7 rfl) ?_)
  refine And.intro (zDP hd 8 rfl rfl (by omega) (by omega)) (fun v18 e18 r18 => ?_)
  have f18 : v18 = 0 := (by refine Eq.trans e18 ?_; repeat (first | exact h8 | exact (congrArg _ (by omega)).trans h8 | refine zxu (by omega) ?_ | refine zxs (by omega) ?_))
  refine ⟨_, _, ⟨zW6i r18, zW6i (zRL rfl)⟩, fun z20 c20 => ?_⟩
  refine And.intro c20.2.2 ⟨fun h21 => ?_, (fun h21 => False.elim (by omega))⟩
  refine Exists.intro _ (And.intro (zinl_ok (zT14_18 0)) (And.intro rfl ?_))
  refine ⟨_, _, ⟨zW6i (by omega), zW6i (zRL rfl)⟩, fun z4_31 c4_31 => ?_⟩
  refine And.intro c4_31.2.2 ⟨(fun h5_31 => False.elim (by omega)), fun h5_31 => ?_⟩
  refine ⟨_, _, ⟨zW6i (by omega), zW6i (zRL rfl)⟩, fun z12_31 c12_31 => ?_⟩
  refine And.intro c12_31.2.2 ⟨(fun h13_31 => False.elim (by omega)), fun h13_31 => ?_⟩
  refine ⟨_, _, ⟨zW6i (by omega), zW6i (zRL rfl)⟩, fun z20_31 c20_31 => ?_⟩
  refine And.intro c20_31.2.2 ⟨(fun h21_31 => False.elim (by omega)), fun h21_31 => ?_⟩
  refine ⟨_, _, ⟨zW6i (by omega), zW6i (zRL rfl)⟩, fun z28_31 c28_31 => ?_⟩
  refine And.intro c28_31.2.2 ⟨(fun h29_31 => False.elim (by omega)), fun h29_31 => ?_⟩
  refine And.intro (Or.inr rfl) ?_
  refine And.intro (zRb rfl) (zbf rfl ?_)
  refine And.intro (zDX hd 0 rfl) ⟨_, (zWi (zRb rfl)), ?_⟩
  refine And.intro (zDX hd 0 rfl) (zrd (v := 0) zxe ?_)
  refine And.intro (zRb rfl) (zbf rfl ?_)
  refine And.intro (zDX hd 0 rfl) (zrdR (v := some (k + 5)) (zDR hd 4 rfl) ?_)
  refine And.intro (zDP hd 5 rfl rfl (by omega) (by omega)) (fun v57 e57 r57 => ?_)
  have f57 : v57 = e := (by refine Eq.trans e57 ?_; repeat (first | exact h5 | exact (congrArg _ (by omega)).trans h5 | refine zxu (by omega) ?_ | refine zxs (by omega) ?_))
  refine And.intro ⟨r57, (zRb rfl)⟩ ⟨fun h60 => ?_, (fun h60 => False.elim (by omega))⟩
  refine And.intro (zDX hd 0 rfl) (zrdR (v := some (k + 5)) (zDR hd 4 rfl) ?_)
  refine And.intro (zDP hd 5 rfl rfl (by omega) (by omega)) (fun v74 e74 r74 => ?_)
  have f74 : v74 = e := (by refine Eq.trans e74 ?_; repeat (first | exact h5 | exact (congrArg _ (by omega)).trans h5 | refine zxu (by omega) ?_ | refine zxs (by omega) ?_))
  refine And.intro (zDX hd 0 rfl) (zrdR (v := some (k + 5)) (zDR hd 4 rfl) ?_)
  refine And.intro (zDP hd 5 rfl rfl (by omega) (by omega)) (fun v83 e83 r83 => ?_)
  refine And.intro r83 ⟨fun h84 => ?_, fun h84 => ?_⟩
  · refine And.intro (zDX hd 0 rfl) (zrdR (v := some (k + 6)) (zDR hd 5 rfl) ?_)
    refine And.intro ⟨(by show 40 ≤ _; omega), (zDP hd 6 rfl rfl (by omega) (by omega))⟩ ⟨_, zW6i (by omega), ?_⟩
    refine And.intro (zDX hd 0 rfl) (zrdR (v := some (k + 7)) (zDR hd 6 rfl) ?_)
    refine And.intro ⟨(by show 40 ≤ _; omega), (zDP hd 7 rfl rfl (by omega) (by omega))⟩ ⟨_, zW6i (by omega), ?_⟩
    refine And.intro (zDX hd 0 rfl) (zrdR (v := some (k + 5)) (zDR hd 4 rfl) ?_)
    refine And.intro (zDP hd 5 rfl rfl (by omega) (by omega)) (fun v141 e141 r141 => ?_)
    have f141 : v141 = e := (by refine Eq.trans e141 ?_; repeat (first | exact h5 | exact (congrArg _ (by omega)).trans h5 | refine zxu (by omega) ?_ | refine zxs (by omega) ?_))
    refine And.intro ⟨(by show 40 ≤ _; omega), (zDP hd 5 rfl rfl (by omega) (by omega))⟩ ⟨_, (zWi (by omega)), ?_⟩
    refine And.intro (Or.inr rfl) ?_
    refine hQ _ _ _ (by first | exact (zxe' (by omega)).trans (by omega) | exact zxe' (by omega)) (zxu (by omega) (zxe' (by omega))) (zxe' (by omega)) (fun c j h0 h1 => (zxcj (by omega) (zxcj h0 rfl))) (fun c j h0 h1 => (zxcj (by omega) (zxcj (by omega) rfl)))
  · refine And.intro (zDX hd 0 rfl) (zrdR (v := some (k + 6)) (zDR hd 5 rfl) ?_)
    refine And.intro (zDP hd 6 rfl rfl (by omega) (by omega)) (fun v95 e95 r95 => ?_)
    have f95 : v95 = L (k + 6) (8 * s) := (e95.trans (congrArg (L (k + 6)) (show _ = 8 * s by omega)))
    refine ⟨_, _, ⟨zW6i r95, zW6i (by omega)⟩, fun z97 c97 => ?_⟩
    refine And.intro c97.2.2 ⟨fun h98 => ?_, fun h98 => ?_⟩
    · refine And.intro (zDX hd 0 rfl) (zrdR (v := some (k + 6)) (zDR hd 5 rfl) ?_)
      refine And.intro ⟨(by show 40 ≤ _; omega), (zDP hd 6 rfl rfl (by omega) (by omega))⟩ ⟨_, zW6i (by omega), ?_⟩
      refine And.intro (zDX hd 0 rfl) (zrdR (v := some (k + 7)) (zDR hd 6 rfl) ?_)
      refine And.intro ⟨(by show 40 ≤ _; omega), (zDP hd 7 rfl rfl (by omega) (by omega))⟩ ⟨_, zW6i (by omega), ?_⟩
      refine And.intro (zDX hd 0 rfl) (zrdR (v := some (k + 5)) (zDR hd 4 rfl) ?_)
      refine And.intro (zDP hd 5 rfl rfl (by omega) (by omega)) (fun v141 e141 r141 => ?_)
      have f141 : v141 = e := (by refine Eq.trans e141 ?_; repeat (first | exact h5 | exact (congrArg _ (by omega)).trans h5 | refine zxu (by omega) ?_ | refine zxs (by omega) ?_))
      refine And.intro ⟨(by show 40 ≤ _; omega), (zDP hd 5 rfl rfl (by omega) (by omega))⟩ ⟨_, (zWi (by omega)), ?_⟩
      refine And.intro (Or.inr rfl) ?_
      refine hQ _ _ _ (by first | exact (zxe' (by omega)).trans (by omega) | exact zxe' (by omega)) (zxu (by omega) (zxe' (by omega))) (zxe' (by omega)) (fun c j h0 h1 => (zxcj (by omega) (zxcj h0 rfl))) (fun c j h0 h1 => (zxcj (by omega) (zxcj (by omega) rfl)))
    · refine And.intro (zDX hd 0 rfl) (zrdR (v := some (k + 7)) (zDR hd 6 rfl) ?_)
      refine And.intro (zDP hd 7 rfl rfl (by omega) (by omega)) (fun v109 e109 r109 => ?_)
      have f109 : v109 = L (k + 7) (8 * s) := (e109.trans (congrArg (L (k + 7)) (show _ = 8 * s by omega)))
      refine ⟨_, _, ⟨zW6i r109, zW6i (by omega)⟩, fun z112 c112 => ?_⟩
      refine And.intro c112.2.2 ⟨fun h113 => ?_, fun h113 => ?_⟩
      · refine And.intro (zDX hd 0 rfl) (zrdR (v := some (k + 6)) (zDR hd 5 rfl) ?_)
        refine And.intro ⟨(by show 40 ≤ _; omega), (zDP hd 6 rfl rfl (by omega) (by omega))⟩ ⟨_, zW6i (by omega), ?_⟩
        refine And.intro (zDX hd 0 rfl) (zrdR (v := some (k + 7)) (zDR hd 6 rfl) ?_)
        refine And.intro ⟨(by show 40 ≤ _; omega), (zDP hd 7 rfl rfl (by omega) (by omega))⟩ ⟨_, zW6i (by omega), ?_⟩
        refine And.intro (zDX hd 0 rfl) (zrdR (v := some (k + 5)) (zDR hd 4 rfl) ?_)
        refine And.intro (zDP hd 5 rfl rfl (by omega) (by omega)) (fun v141 e141 r141 => ?_)
        have f141 : v141 = e := (by refine Eq.trans e141 ?_; repeat (first | exact h5 | exact (congrArg _ (by omega)).trans h5 | refine zxu (by omega) ?_ | refine zxs (by omega) ?_))
        refine And.intro ⟨(by show 40 ≤ _; omega), (zDP hd 5 rfl rfl (by omega) (by omega))⟩ ⟨_, (zWi (by omega)), ?_⟩
        refine And.intro (Or.inr rfl) ?_
        refine hQ _ _ _ (by first | exact (zxe' (by omega)).trans (by omega) | exact zxe' (by omega)) (zxu (by omega) (zxe' (by omega))) (zxe' (by omega)) (fun c j h0 h1 => (zxcj (by omega) (zxcj h0 rfl))) (fun c j h0 h1 => (zxcj (by omega) (zxcj (by omega) rfl)))
      · exact False.elim (by omega))
def T_V_clo2 : ZT := fun args I L R S Q => ∃ (k : Nat) (n : Nat) (a : Int) (s : Nat) (e : Nat) (r : Int), args = [zvr k, zvi a, zvl r] ∧ (zSh S) ∧ (zRs R) ∧ (zDy zT14 zF14 k R S) ∧ (a = s) ∧ (I k 2 = n) ∧ ((s < n ∧ n ≤ 60) ∧ (1 ≤ e ∧ e ≤ 2) ∧ 1 ≤ r ∧ r ≤ 1000) ∧ (L (k + 8) s = 0) ∧ (I (k + 5) s = e) ∧ ∀ (v : Int) (I' : ZI) (L' : ZI), (L' (k + 8) s = r) → (∀ c j : Nat, ¬ (c = k ∧ j = 0) → I' c j = I c j) → (∀ c j : Nat, ¬ (c = k + 8 ∧ j = s) → L' c j = L c j) → Q (some (zvi (v))) I' L' R S
theorem sn_V_clo2 : ZSnd 2 14 1 T_V_clo2 := ZSnd.of (zT14_1 1) (by
  rintro args I L R S Q hz ⟨k, n, a, s, e, r, rfl, hS, hR, hd, hs, hn, hb, h8, h5, hQ⟩
  have hk5 := hd.1
  refine And.intro rfl ?_
  refine And.intro (zDX hd 0 rfl) (Exists.intro _ (And.intro (zinl_ok (zT14_20 0)) (And.intro rfl ?_)))
  refine And.intro (by omega) ⟨(fun h1_3 => False.elim (by omega)), fun h1_3 => ?_⟩
  refine And.intro (zDX hd 0 rfl) (zrd (v := n) hn ?_)
  refine And.intro ⟨(by omega), (by omega)⟩ ⟨(fun h9_3 => False.elim (by omega)), fun h9_3 => ?_⟩
  refine And.intro (Or.inr rfl) ?_
  refine And.intro (zRb rfl) (zbt rfl ?_)
  refine And.intro (zDX hd 0 rfl) (zrdR (v := some (k + 8)) (zDR hd 7 rfl) ?_)
  refine And.intro (zDP hd 8 rfl rfl (by omega) (by omega)) (fun v18 e18 r18 => ?_)
  have f18 : v18 = 0 := (by refine Eq.trans e18 ?_; repeat (first | exact h8 | exact (congrArg _ (by omega)).trans h8 | refine zxu (by omega) ?_ | refine zxs (by omega) ?_))
  refine ⟨_, _, ⟨zW6i r18, zW6i (zRL rfl)⟩, fun z20 c20 => ?_⟩
  refine And.intro c20.2.2 ⟨fun h21 => ?_, (fun h21 => False.elim (by omega))⟩
  refine ⟨_, _, ⟨zW6i (by omega), zW6i (zRL rfl)⟩, fun z30 c30 => ?_⟩
  refine And.intro c30.2.2 ⟨(fun h31 => False.elim (by omega)), fun h31 => ?_⟩
  refine ⟨_, _, ⟨zW6i (by omega), zW6i (zRL rfl)⟩, fun z38 c38 => ?_⟩
  refine And.intro c38.2.2 ⟨fun h39 => ?_, (fun h39 => False.elim (by omega))⟩
  refine And.intro (zDX hd 0 rfl) ⟨_, (zWi (zRb rfl)), ?_⟩
  refine And.intro (zDX hd 0 rfl) (zrd (v := 0) zxe ?_)
  refine And.intro (zRb rfl) (zbf rfl ?_)
  refine And.intro (zDX hd 0 rfl) (zrdR (v := some (k + 5)) (zDR hd 4 rfl) ?_)
  refine And.intro (zDP hd 5 rfl rfl (by omega) (by omega)) (fun v62 e62 r62 => ?_)
  have f62 : v62 = e := (by refine Eq.trans e62 ?_; repeat (first | exact h5 | exact (congrArg _ (by omega)).trans h5 | refine zxu (by omega) ?_ | refine zxs (by omega) ?_))
  refine And.intro r62 ⟨fun h63 => ?_, (fun h63 => False.elim (by omega))⟩
  refine And.intro (zDX hd 0 rfl) (zrdR (v := some (k + 8)) (zDR hd 7 rfl) ?_)
  refine And.intro ⟨(by show 40 ≤ _; omega), (zDP hd 8 rfl rfl (by omega) (by omega))⟩ ⟨_, zW6i (by omega), ?_⟩
  refine And.intro (Or.inr rfl) ?_
  refine hQ _ _ _ (zxe' (by omega)) (fun c j h0 => (zxcj h0 rfl)) (fun c j h0 => (zxcj (by omega) rfl)))
def T_V_cls2 : ZT := fun args I L R S Q => ∃ (k : Nat) (n : Nat) (a : Int) (s : Nat) (c : Int), args = [zvr k, zvi a, zvi c] ∧ (zSh S) ∧ (zRs R) ∧ (zDy zT14 zF14 k R S) ∧ (a = s) ∧ (I k 2 = n) ∧ ((s < n ∧ n ≤ 60) ∧ 0 ≤ c ∧ c ≤ 3) ∧ ∀ (v : Int) (I' : ZI), (I' (k + 4) s = c) → (∀ c j : Nat, ¬ (c = k ∧ j = 0) → ¬ (c = k + 4 ∧ j = s) → I' c j = I c j) → Q (some (zvi (v))) I' L R S
theorem sn_V_cls2 : ZSnd 2 14 2 T_V_cls2 := ZSnd.of (zT14_2 1) (by
  rintro args I L R S Q hz ⟨k, n, a, s, c, rfl, hS, hR, hd, hs, hn, hb, hQ⟩
  have hk5 := hd.1
  refine And.intro rfl ?_
  refine And.intro (zDX hd 0 rfl) (Exists.intro _ (And.intro (zinl_ok (zT14_20 0)) (And.intro rfl ?_)))
  refine And.intro (by omega) ⟨(fun h1_3 => False.elim (by omega)), fun h1_3 => ?_⟩
  refine And.intro (zDX hd 0 rfl) (zrd (v := n) hn ?_)
  refine And.intro ⟨(by omega), (by omega)⟩ ⟨(fun h9_3 => False.elim (by omega)), fun h9_3 => ?_⟩
  refine And.intro (Or.inr rfl) ?_
  refine And.intro (zRb rfl) (zbt rfl ?_)
  refine And.intro (by omega) ⟨(fun h14 => False.elim (by omega)), fun h14 => ?_⟩
  refine And.intro ⟨(by omega), (zRb rfl)⟩ ⟨fun h20 => ?_, (fun h20 => False.elim (by omega))⟩
  refine And.intro (zDX hd 0 rfl) ⟨_, (zWi (zRb rfl)), ?_⟩
  refine And.intro (zDX hd 0 rfl) (zrd (v := 0) zxe ?_)
  refine And.intro (zRb rfl) (zbf rfl ?_)
  refine And.intro (zDX hd 0 rfl) (zrdR (v := some (k + 4)) (zDR hd 3 rfl) ?_)
  refine And.intro (zDP hd 4 rfl rfl (by omega) (by omega)) (fun v43 e43 r43 => ?_)
  have f43 : v43 = I (k + 4) s := (by have z := e43; have y : xu I k 0 0 (k + 4) a.toNat = I (k + 4) a.toNat := zxu (by omega) rfl; exact (e43.trans y).trans (congrArg (I (k + 4)) (by omega)))
  refine And.intro ⟨r43, (by omega)⟩ ⟨fun h45 => ?_, fun h45 => ?_⟩
  · refine And.intro (zDX hd 0 rfl) (zrdR (v := some (k + 4)) (zDR hd 3 rfl) ?_)
    refine And.intro ⟨(by show 40 ≤ _; omega), (zDP hd 4 rfl rfl (by omega) (by omega))⟩ ⟨_, (zWi (by omega)), ?_⟩
    refine And.intro (Or.inr rfl) ?_
    refine hQ _ _ (by first | exact zxe' (by omega) | exact (zxu (by omega) rfl : _ = I (k + 4) s).trans (by omega) | exact (by assumption : _ = _).symm.trans (by omega) | omega) (fun c j h0 h1 => (zxcj (by omega) (zxcj h0 rfl)))
  · refine And.intro (Or.inl rfl) ?_
    refine hQ _ _ (by first | exact zxe' (by omega) | exact (zxu (by omega) rfl : _ = I (k + 4) s).trans (by omega) | exact (by assumption : _ = _).symm.trans (by omega) | omega) (fun c j h0 h1 => (zxcj h0 rfl)))
def T_Y_sh0 : ZT := fun args I L R S Q => ∃ (net : Int) (l : Int) (kd : Int) (c : Int) (x : Int) (y : Int) (z : Int) (u : Int) (r : Int) (n : Nat), args = [zvr 165, zvi net, zvi l, zvi kd, zvi c, zvi x, zvi y, zvi z, zvi u, zvi r] ∧ (zSh S) ∧ (zRs R) ∧ (I 165 41 = 0) ∧ (I 165 42 = n) ∧ (n ≤ 100000) ∧ ∀ (I' : ZI), (I' 165 42 = n + 1) → (∀ c j : Nat, ¬ (c = 165 ∧ j = 42) → I' c j = I c j) → Q none I' L R S
theorem sn_Y_sh0 : ZSnd 3 21 69 T_Y_sh0 := ZSnd.of (zT21_69 2) (by
  rintro args I L R S Q hz ⟨net, l, kd, c, x, y, z, u, r, n, rfl, hS, hR, hmk, hn, hn2, hQ⟩
  refine And.intro rfl ?_
  refine And.intro (zA_165 hS) (zrd (v := n) hn ?_)
  refine And.intro (zA_165 hS) ⟨_, (zWi (by omega)), ?_⟩
  refine And.intro (zA_165 hS) (zrd (v := 0) hmk ?_)
  refine And.intro (zRb rfl) (zbf rfl ?_)
  refine hQ _ (by first | exact zxe | exact zxe.trans (by omega)) (fun c j h0 => (zxcj h0 rfl)))
def T_Y_sh1 : ZT := fun args I L R S Q => ∃ (k : Nat) (w : List CuR) (net : Int) (l : Int) (kd : Int) (c : Int) (x : Int) (y : Int) (z : Int) (u : Int) (r : Int) (n : Nat) (D : Int), args = [zvr 165, zvi net, zvi l, zvi kd, zvi c, zvi x, zvi y, zvi z, zvi u, zvi r] ∧ (zSh S) ∧ (zRs R) ∧ (R 165 32 = some k) ∧ (zDy zT14 zF14 k R S) ∧ (I 165 41 = 1) ∧ (I 165 42 = n) ∧ (n ≤ 100000) ∧ (zCk k w I L) ∧ (zFrs k w.length I L) ∧ (w.length ≤ 59) ∧ (I k 1 = D) ∧ ((0 ≤ net ∧ net ≤ 11) ∧ (0 ≤ l ∧ l ≤ 3) ∧ (0 ≤ c ∧ c ≤ 3) ∧ kd = cuKd c ∧ r = cuRa c ∧ ((0 ≤ x ∧ x ≤ 15) ∧ (0 ≤ y ∧ y ≤ 15) ∧ (0 ≤ z ∧ z ≤ 15) ∧ 0 ≤ u ∧ u ≤ 15) ∧ l < D ∧ D ≤ 16) ∧ ((c ≠ 0 → z = x ∧ u = y) ∧ (c = 0 → z ≠ x ∨ u ≠ y)) ∧ (302 ≤ k) ∧ ∀ (I' : ZI) (L' : ZI), (I' 165 42 = n + 1) → (zCk k (w ++ [cRw c net l (16 * y + x) (16 * u + z)]) I' L') → (zFrs k (w.length + 1) I' L') → (∀ c j : Nat, ¬ (c = 165 ∧ j = 42) → ¬ (c = k ∧ j = 0) → ¬ (c = k ∧ j = 2) → ¬ (c = k + 1 ∧ j = w.length) → ¬ (c = k + 2 ∧ j = w.length) → ¬ (c = k + 3 ∧ j = w.length) → ¬ (c = k + 4 ∧ j = w.length) → ¬ (c = k + 5 ∧ j = w.length) → I' c j = I c j) → (∀ c j : Nat, ¬ (c = k + 6 ∧ 8 * w.length ≤ j) → ¬ (c = k + 7 ∧ 8 * w.length ≤ j) → ¬ (c = k + 8 ∧ j = w.length) → L' c j = L c j) → Q none I' L' R S
theorem sn_Y_sh1 : ZSnd 3 21 69 T_Y_sh1 := ZSnd.of (zT21_69 2) (by
  rintro args I L R S Q hz ⟨k, w, net, l, kd, c, x, y, z, u, r, n, D, rfl, hS, hR, hrf, hd, hmk, hn, hn2, hCk, hFr, hwl, hD_, hb, hzu, hk, hQ⟩
  have hk5 := hd.1
  obtain ⟨hc0, hcl, hck⟩ := id hCk
  have hkk := cuKd_c c
  have hfz := hFr w.length (Nat.le_refl _) (by omega)
  have hra := cuRa_b (c := c)
  have hra1 : 100 ≤ cuRa c := (by have z9 := hb.2.2.1; unfold cuRa; split <;> (try split) <;> (try split) <;> (try split) <;> omega)
  refine And.intro rfl ?_
  refine And.intro (zA_165 hS) (zrd (v := n) hn ?_)
  refine And.intro (zA_165 hS) ⟨_, (zWi (by omega)), ?_⟩
  refine And.intro (zA_165 hS) (zrd (v := 1) hmk ?_)
  refine And.intro (zRb rfl) (zbt rfl ?_)
  refine And.intro (zA_165 hS) (zrdR (v := some k) hrf ?_)
  refine And.intro (zDX hd 0 rfl) ⟨_, sn_V_shp.up (by decide), ?_⟩
  refine ⟨_, w.length, D, (net : Int), (l : Int), (kd : Int), rfl, hS, hR, hd, (zxu (by omega) hc0), (by omega), (zxu (by omega) hD_), (by clear hQ; grind [xu]), ?_⟩
  intro v25o I25o p25hv p25bh2 p25bbha1 p25bbbhl1 p25bbbbhc1 p25bbbbbfr
  refine And.intro (zA_165 hS) (zrdR (v := some k) hrf ?_)
  refine And.intro (by omega) ?_
  refine And.intro (by omega) ?_
  refine And.intro (zDX hd 0 rfl) ⟨_, sn_V_cor2.up (by decide), ?_⟩
  refine ⟨_, (w.length + 1), (v25o : Int), w.length, 0, ((1000 * x) : Int), ((1000 * y) : Int), rfl, hS, hR, hd, (by omega), (Eq.trans (b := (((w.length) + 1) : Int)) p25bh2 (by omega)), (by clear hQ; grind [xu]), hfz.2.2, (by repeat (first | exact (zxu (by omega) hfz.2.1) | refine (p106bfr _ _ (by omega) (by omega)).trans ?_ | refine (p93bfr _ _ (by omega)).trans ?_ | refine (p79bbbfr _ _ (by omega) (by omega)).trans ?_ | refine (p50bbbfr _ _ (by omega) (by omega)).trans ?_ | refine (p25bbbbbfr _ _ (by omega) (by omega) (by omega) (by omega) (by omega)).trans ?_)), (fun h => absurd h (by decide)), ?_⟩
  intro v50o I50o L50o p50h5b p50bhx p50bbhy p50bbbfr p50bbbbfrL
  refine And.intro (by omega) ⟨fun h56 => ?_, fun h56 => ?_⟩
  · refine And.intro (zA_165 hS) (zrdR (v := some k) hrf ?_)
    refine And.intro (by omega) ?_
    refine And.intro (zDX hd 0 rfl) ⟨_, sn_V_clo2.up (by decide), ?_⟩
    refine ⟨_, (w.length + 1), (v25o : Int), w.length, (cuCn c), (r : Int), rfl, hS, hR, hd, (by omega), (Eq.trans (b := (((w.length) + 1) : Int)) ((p50bbbfr k 2 (by omega) (by omega)).trans p25bh2) (by omega)), (by have z9 := cuCn_c c; omega), (by repeat (first | exact hfz.2.2 | refine (p93bbfrL _ _ (by omega)).trans ?_ | refine (p79bbbbfrL _ _ (by omega) (by omega)).trans ?_ | refine (p50bbbbfrL _ _ (by omega) (by omega)).trans ?_)), (by have z9 := cuCn_c c; first | (refine p79h5b.trans ?_; omega) | (refine p50h5b.trans ?_; omega)), ?_⟩
    intro v93o I93o L93o p93hx p93bfr p93bbfrL
    refine And.intro (zA_165 hS) (zrdR (v := some k) hrf ?_)
    refine And.intro (zDX hd 0 rfl) ⟨_, sn_V_cls2.up (by decide), ?_⟩
    refine ⟨_, (w.length + 1), (v25o : Int), w.length, (c : Int), rfl, hS, hR, hd, (by omega), (Eq.trans (b := (((w.length) + 1) : Int)) ((p93bfr k 2 (by omega)).trans ((p50bbbfr k 2 (by omega) (by omega)).trans p25bh2)) (by omega)), (by clear hQ; grind [xu]), ?_⟩
    intro v106o I106o p106hx p106bfr
    refine hQ _ _ (Eq.trans (b := ((n + 1) : Int)) ((p106bfr 165 42 (by omega) (by omega)).trans ((p93bfr 165 42 (by omega)).trans ((p50bbbfr 165 42 (by omega) (by omega)).trans ((p25bbbbbfr 165 42 (by omega) (by omega) (by omega) (by omega) (by omega)).trans rfl)))) (by omega)) ?_ (fun i h1 h2 => ⟨(by repeat (first | exact (zxu (by omega) (hFr i (by omega) h2).1) | refine (p106bfr _ _ (by omega) (by omega)).trans ?_ | refine (p93bfr _ _ (by omega)).trans ?_ | refine (p79bbbfr _ _ (by omega) (by omega)).trans ?_ | refine (p50bbbfr _ _ (by omega) (by omega)).trans ?_ | refine (p25bbbbbfr _ _ (by omega) (by omega) (by omega) (by omega) (by omega)).trans ?_)), (by repeat (first | exact (zxu (by omega) (hFr i (by omega) h2).2.1) | refine (p106bfr _ _ (by omega) (by omega)).trans ?_ | refine (p93bfr _ _ (by omega)).trans ?_ | refine (p79bbbfr _ _ (by omega) (by omega)).trans ?_ | refine (p50bbbfr _ _ (by omega) (by omega)).trans ?_ | refine (p25bbbbbfr _ _ (by omega) (by omega) (by omega) (by omega) (by omega)).trans ?_)), (by repeat (first | exact (hFr i (by omega) h2).2.2 | refine (p93bbfrL _ _ (by omega)).trans ?_ | refine (p79bbbbfrL _ _ (by omega) (by omega)).trans ?_ | refine (p50bbbbfrL _ _ (by omega) (by omega)).trans ?_))⟩) (fun c j h0 h1 h2 h3 h4 h5 h6 h7 => ((p106bfr c j h1 (by omega)).trans ((p93bfr c j h1).trans ((p50bbbfr c j h1 (by omega)).trans ((p25bbbbbfr c j h1 h2 (by omega) (by omega) (by omega)).trans (zxcj h0 rfl)))))) (fun c j h0 h1 h2 => ((p93bbfrL c j (by omega)).trans ((p50bbbbfrL c j (by omega) (by omega)).trans rfl)))
    · have z9 := cuCn_c c
      have e0 := cuQ_p (x := x) (y := y) (by omega)
      have e1 := cuQ_p (x := z) (y := u) (by omega)
      refine zCk_a hCk rfl hwl (fun q => by have z8 := hzu.1 q; omega) (by repeat (first | exact p25bh2 | refine (p106bfr _ _ (by omega) (by omega)).trans ?_ | refine (p93bfr _ _ (by omega)).trans ?_ | refine (p79bbbfr _ _ (by omega) (by omega)).trans ?_ | refine (p50bbbfr _ _ (by omega) (by omega)).trans ?_ | refine (p25bbbbbfr _ _ (by omega) (by omega) (by omega) (by omega) (by omega)).trans ?_)) ⟨⟨(by repeat (first | exact p25bbha1 | refine (p106bfr _ _ (by omega) (by omega)).trans ?_ | refine (p93bfr _ _ (by omega)).trans ?_ | refine (p79bbbfr _ _ (by omega) (by omega)).trans ?_ | refine (p50bbbfr _ _ (by omega) (by omega)).trans ?_ | refine (p25bbbbbfr _ _ (by omega) (by omega) (by omega) (by omega) (by omega)).trans ?_)), (by repeat (first | exact p25bbbhl1 | refine (p106bfr _ _ (by omega) (by omega)).trans ?_ | refine (p93bfr _ _ (by omega)).trans ?_ | refine (p79bbbfr _ _ (by omega) (by omega)).trans ?_ | refine (p50bbbfr _ _ (by omega) (by omega)).trans ?_ | refine (p25bbbbbfr _ _ (by omega) (by omega) (by omega) (by omega) (by omega)).trans ?_)), (by repeat (first | exact (p25bbbbhc1.trans (by omega)) | refine (p106bfr _ _ (by omega) (by omega)).trans ?_ | refine (p93bfr _ _ (by omega)).trans ?_ | refine (p79bbbfr _ _ (by omega) (by omega)).trans ?_ | refine (p50bbbfr _ _ (by omega) (by omega)).trans ?_ | refine (p25bbbbbfr _ _ (by omega) (by omega) (by omega) (by omega) (by omega)).trans ?_)), (by repeat (first | exact p106hx | refine (p106bfr _ _ (by omega) (by omega)).trans ?_ | refine (p93bfr _ _ (by omega)).trans ?_ | refine (p79bbbfr _ _ (by omega) (by omega)).trans ?_ | refine (p50bbbfr _ _ (by omega) (by omega)).trans ?_ | refine (p25bbbbbfr _ _ (by omega) (by omega) (by omega) (by omega) (by omega)).trans ?_)), (by repeat (first | exact (p79h5b.trans (by omega)) | exact (p50h5b.trans (by omega)) | refine (p106bfr _ _ (by omega) (by omega)).trans ?_ | refine (p93bfr _ _ (by omega)).trans ?_ | refine (p79bbbfr _ _ (by omega) (by omega)).trans ?_ | refine (p50bbbfr _ _ (by omega) (by omega)).trans ?_ | refine (p25bbbbbfr _ _ (by omega) (by omega) (by omega) (by omega) (by omega)).trans ?_))⟩, (by repeat (first | exact (p50bhx.trans e0.1.symm) | refine (p93bbfrL _ _ (by omega)).trans ?_ | refine (p79bbbbfrL _ _ (by omega) (by omega)).trans ?_ | refine (p50bbbbfrL _ _ (by omega) (by omega)).trans ?_)), (by repeat (first | exact (p50bbhy.trans e0.2.symm) | refine (p93bbfrL _ _ (by omega)).trans ?_ | refine (p79bbbbfrL _ _ (by omega) (by omega)).trans ?_ | refine (p50bbbbfrL _ _ (by omega) (by omega)).trans ?_)), fun q => ⟨(by repeat (first | exact (p79bhx.trans e1.1.symm) | exact (absurd q (by omega)) | refine (p93bbfrL _ _ (by omega)).trans ?_ | refine (p79bbbbfrL _ _ (by omega) (by omega)).trans ?_ | refine (p50bbbbfrL _ _ (by omega) (by omega)).trans ?_)), (by repeat (first | exact (p79bbhy.trans e1.2.symm) | exact (absurd q (by omega)) | refine (p93bbfrL _ _ (by omega)).trans ?_ | refine (p79bbbbfrL _ _ (by omega) (by omega)).trans ?_ | refine (p50bbbbfrL _ _ (by omega) (by omega)).trans ?_))⟩, (by repeat (first | exact (p93hx.trans (by omega)) | refine (p93bbfrL _ _ (by omega)).trans ?_ | refine (p79bbbbfrL _ _ (by omega) (by omega)).trans ?_ | refine (p50bbbbfrL _ _ (by omega) (by omega)).trans ?_))⟩ ?_ ?_
      · intro c9 j9 h9
        repeat (first | exact (zxu (by omega) rfl) | refine (p106bfr _ _ (by omega) (by omega)).trans ?_ | refine (p93bfr _ _ (by omega)).trans ?_ | refine (p79bbbfr _ _ (by omega) (by omega)).trans ?_ | refine (p50bbbfr _ _ (by omega) (by omega)).trans ?_ | refine (p25bbbbbfr _ _ (by omega) (by omega) (by omega) (by omega) (by omega)).trans ?_)
      · intro c9 j9 h9
        repeat (first | exact rfl | refine (p93bbfrL _ _ (by omega)).trans ?_ | refine (p79bbbbfrL _ _ (by omega) (by omega)).trans ?_ | refine (p50bbbbfrL _ _ (by omega) (by omega)).trans ?_)
  · refine And.intro (zA_165 hS) (zrdR (v := some k) hrf ?_)
    refine And.intro (by omega) ?_
    refine And.intro (by omega) ?_
    refine And.intro (zDX hd 0 rfl) ⟨_, sn_V_cor2.up (by decide), ?_⟩
    refine ⟨_, (w.length + 1), (v25o : Int), w.length, 1, ((1000 * z) : Int), ((1000 * u) : Int), rfl, hS, hR, hd, (by omega), (Eq.trans (b := (((w.length) + 1) : Int)) ((p50bbbfr k 2 (by omega) (by omega)).trans p25bh2) (by omega)), (by clear hQ; grind [xu]), (by repeat (first | exact hfz.2.2 | refine (p93bbfrL _ _ (by omega)).trans ?_ | refine (p79bbbbfrL _ _ (by omega) (by omega)).trans ?_ | refine (p50bbbbfrL _ _ (by omega) (by omega)).trans ?_)), (p50h5b.trans (by omega)), (fun _ => by have q1 : L50o (k + 6) (8 * w.length) = 1000 * x := p50bhx; have q2 : L50o (k + 7) (8 * w.length) = 1000 * y := p50bbhy; have z9 := hzu.2 (by omega); omega), ?_⟩
    intro v79o I79o L79o p79h5b p79bhx p79bbhy p79bbbfr p79bbbbfrL
    refine And.intro (zA_165 hS) (zrdR (v := some k) hrf ?_)
    refine And.intro (by omega) ?_
    refine And.intro (zDX hd 0 rfl) ⟨_, sn_V_clo2.up (by decide), ?_⟩
    refine ⟨_, (w.length + 1), (v25o : Int), w.length, (cuCn c), (r : Int), rfl, hS, hR, hd, (by omega), (Eq.trans (b := (((w.length) + 1) : Int)) ((p79bbbfr k 2 (by omega) (by omega)).trans ((p50bbbfr k 2 (by omega) (by omega)).trans p25bh2)) (by omega)), (by have z9 := cuCn_c c; omega), (by repeat (first | exact hfz.2.2 | refine (p93bbfrL _ _ (by omega)).trans ?_ | refine (p79bbbbfrL _ _ (by omega) (by omega)).trans ?_ | refine (p50bbbbfrL _ _ (by omega) (by omega)).trans ?_)), (by have z9 := cuCn_c c; first | (refine p79h5b.trans ?_; omega) | (refine p50h5b.trans ?_; omega)), ?_⟩
    intro v93o I93o L93o p93hx p93bfr p93bbfrL
    refine And.intro (zA_165 hS) (zrdR (v := some k) hrf ?_)
    refine And.intro (zDX hd 0 rfl) ⟨_, sn_V_cls2.up (by decide), ?_⟩
    refine ⟨_, (w.length + 1), (v25o : Int), w.length, (c : Int), rfl, hS, hR, hd, (by omega), (Eq.trans (b := (((w.length) + 1) : Int)) ((p93bfr k 2 (by omega)).trans ((p79bbbfr k 2 (by omega) (by omega)).trans ((p50bbbfr k 2 (by omega) (by omega)).trans p25bh2))) (by omega)), (by clear hQ; grind [xu]), ?_⟩
    intro v106o I106o p106hx p106bfr
    refine hQ _ _ (Eq.trans (b := ((n + 1) : Int)) ((p106bfr 165 42 (by omega) (by omega)).trans ((p93bfr 165 42 (by omega)).trans ((p79bbbfr 165 42 (by omega) (by omega)).trans ((p50bbbfr 165 42 (by omega) (by omega)).trans ((p25bbbbbfr 165 42 (by omega) (by omega) (by omega) (by omega) (by omega)).trans rfl))))) (by omega)) ?_ (fun i h1 h2 => ⟨(by repeat (first | exact (zxu (by omega) (hFr i (by omega) h2).1) | refine (p106bfr _ _ (by omega) (by omega)).trans ?_ | refine (p93bfr _ _ (by omega)).trans ?_ | refine (p79bbbfr _ _ (by omega) (by omega)).trans ?_ | refine (p50bbbfr _ _ (by omega) (by omega)).trans ?_ | refine (p25bbbbbfr _ _ (by omega) (by omega) (by omega) (by omega) (by omega)).trans ?_)), (by repeat (first | exact (zxu (by omega) (hFr i (by omega) h2).2.1) | refine (p106bfr _ _ (by omega) (by omega)).trans ?_ | refine (p93bfr _ _ (by omega)).trans ?_ | refine (p79bbbfr _ _ (by omega) (by omega)).trans ?_ | refine (p50bbbfr _ _ (by omega) (by omega)).trans ?_ | refine (p25bbbbbfr _ _ (by omega) (by omega) (by omega) (by omega) (by omega)).trans ?_)), (by repeat (first | exact (hFr i (by omega) h2).2.2 | refine (p93bbfrL _ _ (by omega)).trans ?_ | refine (p79bbbbfrL _ _ (by omega) (by omega)).trans ?_ | refine (p50bbbbfrL _ _ (by omega) (by omega)).trans ?_))⟩) (fun c j h0 h1 h2 h3 h4 h5 h6 h7 => ((p106bfr c j h1 (by omega)).trans ((p93bfr c j h1).trans ((p79bbbfr c j h1 (by omega)).trans ((p50bbbfr c j h1 (by omega)).trans ((p25bbbbbfr c j h1 h2 (by omega) (by omega) (by omega)).trans (zxcj h0 rfl))))))) (fun c j h0 h1 h2 => ((p93bbfrL c j (by omega)).trans ((p79bbbbfrL c j (by omega) (by omega)).trans ((p50bbbbfrL c j (by omega) (by omega)).trans rfl))))
    · have z9 := cuCn_c c
      have e0 := cuQ_p (x := x) (y := y) (by omega)
      have e1 := cuQ_p (x := z) (y := u) (by omega)
      refine zCk_a hCk rfl hwl (fun q => by have z8 := hzu.1 q; omega) (by repeat (first | exact p25bh2 | refine (p106bfr _ _ (by omega) (by omega)).trans ?_ | refine (p93bfr _ _ (by omega)).trans ?_ | refine (p79bbbfr _ _ (by omega) (by omega)).trans ?_ | refine (p50bbbfr _ _ (by omega) (by omega)).trans ?_ | refine (p25bbbbbfr _ _ (by omega) (by omega) (by omega) (by omega) (by omega)).trans ?_)) ⟨⟨(by repeat (first | exact p25bbha1 | refine (p106bfr _ _ (by omega) (by omega)).trans ?_ | refine (p93bfr _ _ (by omega)).trans ?_ | refine (p79bbbfr _ _ (by omega) (by omega)).trans ?_ | refine (p50bbbfr _ _ (by omega) (by omega)).trans ?_ | refine (p25bbbbbfr _ _ (by omega) (by omega) (by omega) (by omega) (by omega)).trans ?_)), (by repeat (first | exact p25bbbhl1 | refine (p106bfr _ _ (by omega) (by omega)).trans ?_ | refine (p93bfr _ _ (by omega)).trans ?_ | refine (p79bbbfr _ _ (by omega) (by omega)).trans ?_ | refine (p50bbbfr _ _ (by omega) (by omega)).trans ?_ | refine (p25bbbbbfr _ _ (by omega) (by omega) (by omega) (by omega) (by omega)).trans ?_)), (by repeat (first | exact (p25bbbbhc1.trans (by omega)) | refine (p106bfr _ _ (by omega) (by omega)).trans ?_ | refine (p93bfr _ _ (by omega)).trans ?_ | refine (p79bbbfr _ _ (by omega) (by omega)).trans ?_ | refine (p50bbbfr _ _ (by omega) (by omega)).trans ?_ | refine (p25bbbbbfr _ _ (by omega) (by omega) (by omega) (by omega) (by omega)).trans ?_)), (by repeat (first | exact p106hx | refine (p106bfr _ _ (by omega) (by omega)).trans ?_ | refine (p93bfr _ _ (by omega)).trans ?_ | refine (p79bbbfr _ _ (by omega) (by omega)).trans ?_ | refine (p50bbbfr _ _ (by omega) (by omega)).trans ?_ | refine (p25bbbbbfr _ _ (by omega) (by omega) (by omega) (by omega) (by omega)).trans ?_)), (by repeat (first | exact (p79h5b.trans (by omega)) | exact (p50h5b.trans (by omega)) | refine (p106bfr _ _ (by omega) (by omega)).trans ?_ | refine (p93bfr _ _ (by omega)).trans ?_ | refine (p79bbbfr _ _ (by omega) (by omega)).trans ?_ | refine (p50bbbfr _ _ (by omega) (by omega)).trans ?_ | refine (p25bbbbbfr _ _ (by omega) (by omega) (by omega) (by omega) (by omega)).trans ?_))⟩, (by repeat (first | exact (p50bhx.trans e0.1.symm) | refine (p93bbfrL _ _ (by omega)).trans ?_ | refine (p79bbbbfrL _ _ (by omega) (by omega)).trans ?_ | refine (p50bbbbfrL _ _ (by omega) (by omega)).trans ?_)), (by repeat (first | exact (p50bbhy.trans e0.2.symm) | refine (p93bbfrL _ _ (by omega)).trans ?_ | refine (p79bbbbfrL _ _ (by omega) (by omega)).trans ?_ | refine (p50bbbbfrL _ _ (by omega) (by omega)).trans ?_)), fun q => ⟨(by repeat (first | exact (p79bhx.trans e1.1.symm) | exact (absurd q (by omega)) | refine (p93bbfrL _ _ (by omega)).trans ?_ | refine (p79bbbbfrL _ _ (by omega) (by omega)).trans ?_ | refine (p50bbbbfrL _ _ (by omega) (by omega)).trans ?_)), (by repeat (first | exact (p79bbhy.trans e1.2.symm) | exact (absurd q (by omega)) | refine (p93bbfrL _ _ (by omega)).trans ?_ | refine (p79bbbbfrL _ _ (by omega) (by omega)).trans ?_ | refine (p50bbbbfrL _ _ (by omega) (by omega)).trans ?_))⟩, (by repeat (first | exact (p93hx.trans (by omega)) | refine (p93bbfrL _ _ (by omega)).trans ?_ | refine (p79bbbbfrL _ _ (by omega) (by omega)).trans ?_ | refine (p50bbbbfrL _ _ (by omega) (by omega)).trans ?_))⟩ ?_ ?_
      · intro c9 j9 h9
        repeat (first | exact (zxu (by omega) rfl) | refine (p106bfr _ _ (by omega) (by omega)).trans ?_ | refine (p93bfr _ _ (by omega)).trans ?_ | refine (p79bbbfr _ _ (by omega) (by omega)).trans ?_ | refine (p50bbbfr _ _ (by omega) (by omega)).trans ?_ | refine (p25bbbbbfr _ _ (by omega) (by omega) (by omega) (by omega) (by omega)).trans ?_)
      · intro c9 j9 h9
        repeat (first | exact rfl | refine (p93bbfrL _ _ (by omega)).trans ?_ | refine (p79bbbbfrL _ _ (by omega) (by omega)).trans ?_ | refine (p50bbbbfrL _ _ (by omega) (by omega)).trans ?_))
