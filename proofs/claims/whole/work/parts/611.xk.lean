/-! xk -/
def T_V_shp : ZT := fun args I L R S Q => ∃ (k : Nat) (n : Nat) (D : Int) (a : Int) (l : Int) (c : Int), args = [zvr k, zvi a, zvi l, zvi c] ∧ (zSh S) ∧ (zRs R) ∧ (zDy zT14 zF14 k R S) ∧ (I k 2 = n) ∧ (n ≤ 59) ∧ (I k 1 = D) ∧ ((0 ≤ l ∧ l < D ∧ D ≤ 100) ∧ (-1 ≤ a ∧ a < 1000) ∧ 0 ≤ c ∧ c < 4) ∧ ∀ (v : Int) (I' : ZI), (v = n) → (I' k 2 = n + 1) → (I' (k + 1) n = a) → (I' (k + 2) n = l) → (I' (k + 3) n = c) → (∀ c j : Nat, ¬ (c = k ∧ j = 0) → ¬ (c = k ∧ j = 2) → ¬ (c = k + 1 ∧ j = n) → ¬ (c = k + 2 ∧ j = n) → ¬ (c = k + 3 ∧ j = n) → I' c j = I c j) → Q (some (zvi (v))) I' L R S
theorem sn_V_shp : ZSnd 1 14 32 T_V_shp := ZSnd.of (zT14_32 0) (by
  rintro args I L R S Q hz ⟨k, n, D, a, l, c, rfl, hS, hR, hd, hn, hn2, hD_, hb, hQ⟩
  have hk5 := hd.1
  refine And.intro rfl ?_
  refine And.intro ⟨(by omega), (zRb rfl)⟩ ⟨(fun h2 => False.elim (by omega)), fun h2 => ?_⟩
  refine And.intro ⟨(by omega), (zRb rfl)⟩ ⟨(fun h9 => False.elim (by omega)), fun h9 => ?_⟩
  refine And.intro (by omega) ⟨(fun h13 => False.elim (by omega)), fun h13 => ?_⟩
  refine And.intro ⟨(by omega), (zRb rfl)⟩ ⟨(fun h18 => False.elim (by omega)), fun h18 => ?_⟩
  refine And.intro (by omega) ⟨(fun h30 => False.elim (by omega)), fun h30 => ?_⟩
  refine And.intro (zDX hd 0 rfl) (zrd (v := D) hD_ ?_)
  refine And.intro ⟨(by omega), (by omega)⟩ ⟨fun h38 => ?_, (fun h38 => False.elim (by omega))⟩
  refine And.intro (zRb rfl) (zbf rfl ?_)
  refine And.intro (zDX hd 0 rfl) ⟨_, (zWi (zRb rfl)), ?_⟩
  refine And.intro (zDX hd 0 rfl) (zrd (v := 0) zxe ?_)
  refine And.intro (zRb rfl) (zbt rfl ?_)
  refine And.intro (zDX hd 0 rfl) (zrd (v := n) (zxs (by decide) hn) ?_)
  refine And.intro ⟨(by omega), (zRb rfl)⟩ ⟨fun h73 => ?_, (fun h73 => False.elim (by omega))⟩
  refine And.intro (zDX hd 0 rfl) (zrdR (v := some (k + 1)) (zDR hd 0 rfl) ?_)
  refine And.intro (zDX hd 0 rfl) (zrd (v := n) (zxs (by decide) hn) ?_)
  refine And.intro ⟨(by show 40 ≤ _; omega), (zDP hd 1 rfl rfl (by omega) (by omega))⟩ ⟨_, (zWi (by omega)), ?_⟩
  refine And.intro (zDX hd 0 rfl) (zrdR (v := some (k + 2)) (zDR hd 1 rfl) ?_)
  refine And.intro (zDX hd 0 rfl) (zrd (v := n) (zxu (by omega) (zxs (by decide) hn)) ?_)
  refine And.intro ⟨(by show 40 ≤ _; omega), (zDP hd 2 rfl rfl (by omega) (by omega))⟩ ⟨_, (zWi (by omega)), ?_⟩
  refine And.intro (zDX hd 0 rfl) (zrdR (v := some (k + 3)) (zDR hd 2 rfl) ?_)
  refine And.intro (zDX hd 0 rfl) (zrd (v := n) (zxu (by omega) (zxu (by omega) (zxs (by decide) hn))) ?_)
  refine And.intro ⟨(by show 40 ≤ _; omega), (zDP hd 3 rfl rfl (by omega) (by omega))⟩ ⟨_, (zWi (by omega)), ?_⟩
  refine And.intro (zDX hd 0 rfl) (zrd (v := n) (zxu (by omega) (zxu (by omega) (zxu (by omega) (zxs (by decide) hn)))) ?_)
  refine And.intro (zDX hd 0 rfl) ⟨_, (zWi (by omega)), ?_⟩
  refine And.intro (zDX hd 0 rfl) (zrd (v := (n + 1)) zxe ?_)
  refine hQ _ _ (by omega) (by first | exact zxe | exact zxe.trans (by omega)) (zxu (by omega) (zxu (by omega) (zxu (by omega) zxe))) (zxu (by omega) (zxu (by omega) zxe)) (zxu (by omega) zxe) (fun c j h0 h1 h2 h3 h4 => (zxcj h1 (zxcj (by omega) (zxcj (by omega) (zxcj (by omega) (zxcj h0 rfl)))))))
def T_V_cor : ZT := fun args I L R S Q => ∃ (k : Nat) (n : Nat) (s : Nat) (e : Nat) (p : Int) (q : Int), args = [zvr k, zvi s, zvl p, zvl q] ∧ (zSh S) ∧ (zRs R) ∧ (zDy zT14 zF14 k R S) ∧ (I k 2 = n) ∧ ((s < n ∧ n ≤ 60) ∧ e ≤ 1 ∧ (0 ≤ p ∧ p ≤ 15000) ∧ 0 ≤ q ∧ q ≤ 15000) ∧ (L (k + 8) s = 0) ∧ (I (k + 5) s = e) ∧ (e = 1 → (L (k + 6) (8 * s) ≠ p ∨ L (k + 7) (8 * s) ≠ q)) ∧ ∀ (v : Int) (I' : ZI) (L' : ZI), (I' (k + 5) s = e + 1) → (L' (k + 6) (8 * s + e) = p) → (L' (k + 7) (8 * s + e) = q) → (∀ c j : Nat, ¬ (c = k ∧ j = 0) → ¬ (c = k + 5 ∧ j = s) → I' c j = I c j) → (∀ c j : Nat, ¬ (c = k + 6 ∧ j = 8 * s + e) → ¬ (c = k + 7 ∧ j = 8 * s + e) → L' c j = L c j) → Q (some (zvi (v))) I' L' R S
theorem sn_V_cor : ZSnd 2 14 4 T_V_cor := ZSnd.of (zT14_4 1) (by
  rintro args I L R S Q hz ⟨k, n, s, e, p, q, rfl, hS, hR, hd, hn, hb, h8, h5, hne, hQ⟩
  have hk5 := hd.1
  refine And.intro rfl ?_
  refine And.intro (zDX hd 0 rfl) (Exists.intro _ (And.intro (zinl_ok (zT14_20 0)) (And.intro rfl ?_)))
  refine And.intro (by omega) ⟨(fun h1_3 => False.elim (by omega)), fun h1_3 => ?_⟩
  refine And.intro (zDX hd 0 rfl) (zrd (v := n) hn ?_)
  refine And.intro ⟨(by omega), (by omega)⟩ ⟨(fun h9_3 => False.elim (by omega)), fun h9_3 => ?_⟩
  refine And.intro (Or.inr rfl) ?_
  refine And.intro (zRb rfl) (zbt rfl ?_)
  refine And.intro (zDX hd 0 rfl) (zrdR (v := some (k + 8)) (zDR hd 7 rfl) ?_)
  refine And.intro (zDP hd 8 rfl rfl (by omega) (by omega)) (fun v18 e18 r18 => ?_)
  have f18 : v18 = 0 := (by refine Eq.trans e18 ?_; repeat (first | exact h8 | exact (congrArg _ (by omega)).trans h8 | refine zxu (by omega) ?_ | refine zxs (by omega) ?_))
  refine ⟨_, _, ⟨zW6i r18, zW6i (zRL rfl)⟩, fun z20 c20 => ?_⟩
  refine And.intro c20.2.2 ⟨fun h21 => ?_, (fun h21 => False.elim (by omega))⟩
  refine Exists.intro _ (And.intro (zinl_ok (zT14_18 0)) (And.intro rfl ?_))
  refine ⟨_, _, ⟨zW6i (by omega), zW6i (zRL rfl)⟩, fun z4_31 c4_31 => ?_⟩
  refine And.intro c4_31.2.2 ⟨(fun h5_31 => False.elim (by omega)), fun h5_31 => ?_⟩
  refine ⟨_, _, ⟨zW6i (by omega), zW6i (zRL rfl)⟩, fun z12_31 c12_31 => ?_⟩
  refine And.intro c12_31.2.2 ⟨(fun h13_31 => False.elim (by omega)), fun h13_31 => ?_⟩
  refine ⟨_, _, ⟨zW6i (by omega), zW6i (zRL rfl)⟩, fun z20_31 c20_31 => ?_⟩
  refine And.intro c20_31.2.2 ⟨(fun h21_31 => False.elim (by omega)), fun h21_31 => ?_⟩
  refine ⟨_, _, ⟨zW6i (by omega), zW6i (zRL rfl)⟩, fun z28_31 c28_31 => ?_⟩
  refine And.intro c28_31.2.2 ⟨(fun h29_31 => False.elim (by omega)), fun h29_31 => ?_⟩
  refine And.intro (Or.inr rfl) ?_
  refine And.intro (zRb rfl) (zbf rfl ?_)
  refine And.intro (zDX hd 0 rfl) ⟨_, (zWi (zRb rfl)), ?_⟩
  refine And.intro (zDX hd 0 rfl) (zrd (v := 0) zxe ?_)
  refine And.intro (zRb rfl) (zbf rfl ?_)
  refine And.intro (zDX hd 0 rfl) (zrdR (v := some (k + 5)) (zDR hd 4 rfl) ?_)
  refine And.intro (zDP hd 5 rfl rfl (by omega) (by omega)) (fun v57 e57 r57 => ?_)
  have f57 : v57 = e := (by refine Eq.trans e57 ?_; repeat (first | exact h5 | exact (congrArg _ (by omega)).trans h5 | refine zxu (by omega) ?_ | refine zxs (by omega) ?_))
  refine And.intro ⟨r57, (zRb rfl)⟩ ⟨fun h60 => ?_, (fun h60 => False.elim (by omega))⟩
  refine And.intro (zDX hd 0 rfl) (zrdR (v := some (k + 5)) (zDR hd 4 rfl) ?_)
  refine And.intro (zDP hd 5 rfl rfl (by omega) (by omega)) (fun v74 e74 r74 => ?_)
  have f74 : v74 = e := (by refine Eq.trans e74 ?_; repeat (first | exact h5 | exact (congrArg _ (by omega)).trans h5 | refine zxu (by omega) ?_ | refine zxs (by omega) ?_))
  refine And.intro (zDX hd 0 rfl) (zrdR (v := some (k + 5)) (zDR hd 4 rfl) ?_)
  refine And.intro (zDP hd 5 rfl rfl (by omega) (by omega)) (fun v83 e83 r83 => ?_)
  refine And.intro r83 ⟨fun h84 => ?_, fun h84 => ?_⟩
  · refine And.intro (zDX hd 0 rfl) (zrdR (v := some (k + 6)) (zDR hd 5 rfl) ?_)
    refine And.intro ⟨(by show 40 ≤ _; omega), (zDP hd 6 rfl rfl (by omega) (by omega))⟩ ⟨_, zW6i (by omega), ?_⟩
    refine And.intro (zDX hd 0 rfl) (zrdR (v := some (k + 7)) (zDR hd 6 rfl) ?_)
    refine And.intro ⟨(by show 40 ≤ _; omega), (zDP hd 7 rfl rfl (by omega) (by omega))⟩ ⟨_, zW6i (by omega), ?_⟩
    refine And.intro (zDX hd 0 rfl) (zrdR (v := some (k + 5)) (zDR hd 4 rfl) ?_)
    refine And.intro (zDP hd 5 rfl rfl (by omega) (by omega)) (fun v141 e141 r141 => ?_)
    have f141 : v141 = e := (by refine Eq.trans e141 ?_; repeat (first | exact h5 | exact (congrArg _ (by omega)).trans h5 | refine zxu (by omega) ?_ | refine zxs (by omega) ?_))
    refine And.intro ⟨(by show 40 ≤ _; omega), (zDP hd 5 rfl rfl (by omega) (by omega))⟩ ⟨_, (zWi (by omega)), ?_⟩
    refine And.intro (Or.inr rfl) ?_
    refine hQ _ _ _ (by first | exact zxe.trans (by omega) | exact zxe) (zxu (by omega) (zxe' (by omega))) (zxe' (by omega)) (fun c j h0 h1 => (zxcj (by omega) (zxcj h0 rfl))) (fun c j h0 h1 => (zxcj (by omega) (zxcj (by omega) rfl)))
  · refine And.intro (zDX hd 0 rfl) (zrdR (v := some (k + 6)) (zDR hd 5 rfl) ?_)
    refine And.intro (zDP hd 6 rfl rfl (by omega) (by omega)) (fun v95 e95 r95 => ?_)
    have f95 : v95 = L (k + 6) (8 * s) := (e95.trans (congrArg (L (k + 6)) (show _ = 8 * s by omega)))
    refine ⟨_, _, ⟨zW6i r95, zW6i (by omega)⟩, fun z97 c97 => ?_⟩
    refine And.intro c97.2.2 ⟨fun h98 => ?_, fun h98 => ?_⟩
    · refine And.intro (zDX hd 0 rfl) (zrdR (v := some (k + 6)) (zDR hd 5 rfl) ?_)
      refine And.intro ⟨(by show 40 ≤ _; omega), (zDP hd 6 rfl rfl (by omega) (by omega))⟩ ⟨_, zW6i (by omega), ?_⟩
      refine And.intro (zDX hd 0 rfl) (zrdR (v := some (k + 7)) (zDR hd 6 rfl) ?_)
      refine And.intro ⟨(by show 40 ≤ _; omega), (zDP hd 7 rfl rfl (by omega) (by omega))⟩ ⟨_, zW6i (by omega), ?_⟩
      refine And.intro (zDX hd 0 rfl) (zrdR (v := some (k + 5)) (zDR hd 4 rfl) ?_)
      refine And.intro (zDP hd 5 rfl rfl (by omega) (by omega)) (fun v141 e141 r141 => ?_)
      have f141 : v141 = e := (by refine Eq.trans e141 ?_; repeat (first | exact h5 | exact (congrArg _ (by omega)).trans h5 | refine zxu (by omega) ?_ | refine zxs (by omega) ?_))
      refine And.intro ⟨(by show 40 ≤ _; omega), (zDP hd 5 rfl rfl (by omega) (by omega))⟩ ⟨_, (zWi (by omega)), ?_⟩
      refine And.intro (Or.inr rfl) ?_
      refine hQ _ _ _ (by first | exact zxe.trans (by omega) | exact zxe) (zxu (by omega) (zxe' (by omega))) (zxe' (by omega)) (fun c j h0 h1 => (zxcj (by omega) (zxcj h0 rfl))) (fun c j h0 h1 => (zxcj (by omega) (zxcj (by omega) rfl)))
    · refine And.intro (zDX hd 0 rfl) (zrdR (v := some (k + 7)) (zDR hd 6 rfl) ?_)
      refine And.intro (zDP hd 7 rfl rfl (by omega) (by omega)) (fun v109 e109 r109 => ?_)
      have f109 : v109 = L (k + 7) (8 * s) := (e109.trans (congrArg (L (k + 7)) (show _ = 8 * s by omega)))
      refine ⟨_, _, ⟨zW6i r109, zW6i (by omega)⟩, fun z112 c112 => ?_⟩
      refine And.intro c112.2.2 ⟨fun h113 => ?_, fun h113 => ?_⟩
      · refine And.intro (zDX hd 0 rfl) (zrdR (v := some (k + 6)) (zDR hd 5 rfl) ?_)
        refine And.intro ⟨(by show 40 ≤ _; omega), (zDP hd 6 rfl rfl (by omega) (by omega))⟩ ⟨_, zW6i (by omega), ?_⟩
        refine And.intro (zDX hd 0 rfl) (zrdR (v := some (k + 7)) (zDR hd 6 rfl) ?_)
        refine And.intro ⟨(by show 40 ≤ _; omega), (zDP hd 7 rfl rfl (by omega) (by omega))⟩ ⟨_, zW6i (by omega), ?_⟩
        refine And.intro (zDX hd 0 rfl) (zrdR (v := some (k + 5)) (zDR hd 4 rfl) ?_)
        refine And.intro (zDP hd 5 rfl rfl (by omega) (by omega)) (fun v141 e141 r141 => ?_)
        have f141 : v141 = e := (by refine Eq.trans e141 ?_; repeat (first | exact h5 | exact (congrArg _ (by omega)).trans h5 | refine zxu (by omega) ?_ | refine zxs (by omega) ?_))
        refine And.intro ⟨(by show 40 ≤ _; omega), (zDP hd 5 rfl rfl (by omega) (by omega))⟩ ⟨_, (zWi (by omega)), ?_⟩
        refine And.intro (Or.inr rfl) ?_
        refine hQ _ _ _ (by first | exact zxe.trans (by omega) | exact zxe) (zxu (by omega) (zxe' (by omega))) (zxe' (by omega)) (fun c j h0 h1 => (zxcj (by omega) (zxcj h0 rfl))) (fun c j h0 h1 => (zxcj (by omega) (zxcj (by omega) rfl)))
      · exact False.elim (by omega))
def T_V_clo : ZT := fun args I L R S Q => ∃ (k : Nat) (n : Nat) (s : Nat) (e : Nat) (r : Int), args = [zvr k, zvi s, zvl r] ∧ (zSh S) ∧ (zRs R) ∧ (zDy zT14 zF14 k R S) ∧ (I k 2 = n) ∧ ((s < n ∧ n ≤ 60) ∧ (1 ≤ e ∧ e ≤ 2) ∧ 1 ≤ r ∧ r ≤ 1000) ∧ (L (k + 8) s = 0) ∧ (I (k + 5) s = e) ∧ ∀ (v : Int) (I' : ZI) (L' : ZI), (L' (k + 8) s = r) → (∀ c j : Nat, ¬ (c = k ∧ j = 0) → I' c j = I c j) → (∀ c j : Nat, ¬ (c = k + 8 ∧ j = s) → L' c j = L c j) → Q (some (zvi (v))) I' L' R S
theorem sn_V_clo : ZSnd 2 14 1 T_V_clo := ZSnd.of (zT14_1 1) (by
  rintro args I L R S Q hz ⟨k, n, s, e, r, rfl, hS, hR, hd, hn, hb, h8, h5, hQ⟩
  have hk5 := hd.1
  refine And.intro rfl ?_
  refine And.intro (zDX hd 0 rfl) (Exists.intro _ (And.intro (zinl_ok (zT14_20 0)) (And.intro rfl ?_)))
  refine And.intro (by omega) ⟨(fun h1_3 => False.elim (by omega)), fun h1_3 => ?_⟩
  refine And.intro (zDX hd 0 rfl) (zrd (v := n) hn ?_)
  refine And.intro ⟨(by omega), (by omega)⟩ ⟨(fun h9_3 => False.elim (by omega)), fun h9_3 => ?_⟩
  refine And.intro (Or.inr rfl) ?_
  refine And.intro (zRb rfl) (zbt rfl ?_)
  refine And.intro (zDX hd 0 rfl) (zrdR (v := some (k + 8)) (zDR hd 7 rfl) ?_)
  refine And.intro (zDP hd 8 rfl rfl (by omega) (by omega)) (fun v18 e18 r18 => ?_)
  have f18 : v18 = 0 := (by refine Eq.trans e18 ?_; repeat (first | exact h8 | exact (congrArg _ (by omega)).trans h8 | refine zxu (by omega) ?_ | refine zxs (by omega) ?_))
  refine ⟨_, _, ⟨zW6i r18, zW6i (zRL rfl)⟩, fun z20 c20 => ?_⟩
  refine And.intro c20.2.2 ⟨fun h21 => ?_, (fun h21 => False.elim (by omega))⟩
  refine ⟨_, _, ⟨zW6i (by omega), zW6i (zRL rfl)⟩, fun z30 c30 => ?_⟩
  refine And.intro c30.2.2 ⟨(fun h31 => False.elim (by omega)), fun h31 => ?_⟩
  refine ⟨_, _, ⟨zW6i (by omega), zW6i (zRL rfl)⟩, fun z38 c38 => ?_⟩
  refine And.intro c38.2.2 ⟨fun h39 => ?_, (fun h39 => False.elim (by omega))⟩
  refine And.intro (zDX hd 0 rfl) ⟨_, (zWi (zRb rfl)), ?_⟩
  refine And.intro (zDX hd 0 rfl) (zrd (v := 0) zxe ?_)
  refine And.intro (zRb rfl) (zbf rfl ?_)
  refine And.intro (zDX hd 0 rfl) (zrdR (v := some (k + 5)) (zDR hd 4 rfl) ?_)
  refine And.intro (zDP hd 5 rfl rfl (by omega) (by omega)) (fun v62 e62 r62 => ?_)
  have f62 : v62 = e := (by refine Eq.trans e62 ?_; repeat (first | exact h5 | exact (congrArg _ (by omega)).trans h5 | refine zxu (by omega) ?_ | refine zxs (by omega) ?_))
  refine And.intro r62 ⟨fun h63 => ?_, (fun h63 => False.elim (by omega))⟩
  refine And.intro (zDX hd 0 rfl) (zrdR (v := some (k + 8)) (zDR hd 7 rfl) ?_)
  refine And.intro ⟨(by show 40 ≤ _; omega), (zDP hd 8 rfl rfl (by omega) (by omega))⟩ ⟨_, zW6i (by omega), ?_⟩
  refine And.intro (Or.inr rfl) ?_
  refine hQ _ _ _ zxe (fun c j h0 => (zxcj h0 rfl)) (fun c j h0 => (zxcj (by omega) rfl)))
def T_V_cls : ZT := fun args I L R S Q => ∃ (k : Nat) (n : Nat) (s : Nat) (c : Int), args = [zvr k, zvi s, zvi c] ∧ (zSh S) ∧ (zRs R) ∧ (zDy zT14 zF14 k R S) ∧ (I k 2 = n) ∧ ((s < n ∧ n ≤ 60) ∧ 0 ≤ c ∧ c ≤ 3) ∧ ∀ (v : Int) (I' : ZI), (I' (k + 4) s = c) → (∀ c j : Nat, ¬ (c = k ∧ j = 0) → ¬ (c = k + 4 ∧ j = s) → I' c j = I c j) → Q (some (zvi (v))) I' L R S
theorem sn_V_cls : ZSnd 2 14 2 T_V_cls := ZSnd.of (zT14_2 1) (by
  rintro args I L R S Q hz ⟨k, n, s, c, rfl, hS, hR, hd, hn, hb, hQ⟩
  have hk5 := hd.1
  refine And.intro rfl ?_
  refine And.intro (zDX hd 0 rfl) (Exists.intro _ (And.intro (zinl_ok (zT14_20 0)) (And.intro rfl ?_)))
  refine And.intro (by omega) ⟨(fun h1_3 => False.elim (by omega)), fun h1_3 => ?_⟩
  refine And.intro (zDX hd 0 rfl) (zrd (v := n) hn ?_)
  refine And.intro ⟨(by omega), (by omega)⟩ ⟨(fun h9_3 => False.elim (by omega)), fun h9_3 => ?_⟩
  refine And.intro (Or.inr rfl) ?_
  refine And.intro (zRb rfl) (zbt rfl ?_)
  refine And.intro (by omega) ⟨(fun h14 => False.elim (by omega)), fun h14 => ?_⟩
  refine And.intro ⟨(by omega), (zRb rfl)⟩ ⟨fun h20 => ?_, (fun h20 => False.elim (by omega))⟩
  refine And.intro (zDX hd 0 rfl) ⟨_, (zWi (zRb rfl)), ?_⟩
  refine And.intro (zDX hd 0 rfl) (zrd (v := 0) zxe ?_)
  refine And.intro (zRb rfl) (zbf rfl ?_)
  refine And.intro (zDX hd 0 rfl) (zrdR (v := some (k + 4)) (zDR hd 3 rfl) ?_)
  refine And.intro (zDP hd 4 rfl rfl (by omega) (by omega)) (fun v43 e43 r43 => ?_)
  have f43 : v43 = I (k + 4) s := (by have z := e43; have y : xu I k 0 0 (k + 4) s = I (k + 4) s := zxu (by omega) rfl; exact e43.trans y)
  refine And.intro ⟨r43, (by omega)⟩ ⟨fun h45 => ?_, fun h45 => ?_⟩
  · refine And.intro (zDX hd 0 rfl) (zrdR (v := some (k + 4)) (zDR hd 3 rfl) ?_)
    refine And.intro ⟨(by show 40 ≤ _; omega), (zDP hd 4 rfl rfl (by omega) (by omega))⟩ ⟨_, (zWi (by omega)), ?_⟩
    refine And.intro (Or.inr rfl) ?_
    refine hQ _ _ (by first | exact zxe | exact (by assumption : _ = _).symm.trans (by omega) | omega) (fun c j h0 h1 => (zxcj (by omega) (zxcj h0 rfl)))
  · refine And.intro (Or.inl rfl) ?_
    refine hQ _ _ (by first | exact zxe | exact (by assumption : _ = _).symm.trans (by omega) | omega) (fun c j h0 h1 => (zxcj h0 rfl)))
def T_V_rul : ZT := fun args I L R S Q => ∃ (k : Nat) (n : Nat) (c : Int) (a : Int) (b : Int) (u : Int), args = [zvr k, zvi c, zvi a, zvi b, zvl u] ∧ (zSh S) ∧ (zRs R) ∧ (zDy zT14 zF14 k R S) ∧ (I k 11 = n) ∧ (n ≤ 29 ∧ (0 ≤ c ∧ c ≤ 5) ∧ (-1 ≤ a ∧ a ≤ 3) ∧ (-1 ≤ b ∧ b ≤ 3) ∧ (0 ≤ u ∧ u ≤ 100000) ∧ (c = 5 → u = 0)) ∧ ∀ (v : Int) (I' : ZI) (L' : ZI), (I' k 11 = n + 1) → (I' (k + 9) n = c ∧ I' (k + 10) n = a ∧ I' (k + 11) n = b ∧ L' (k + 12) n = u) → (∀ c j : Nat, ¬ (c = k ∧ j = 0) → ¬ (c = k ∧ j = 11) → ¬ (c = k + 9 ∧ j = n) → ¬ (c = k + 10 ∧ j = n) → ¬ (c = k + 11 ∧ j = n) → I' c j = I c j) → (∀ c j : Nat, ¬ (c = k + 12 ∧ j = n) → L' c j = L c j) → Q (some (zvi (v))) I' L' R S
theorem sn_V_rul : ZSnd 2 14 29 T_V_rul := ZSnd.of (zT14_29 1) (by
  rintro args I L R S Q hz ⟨k, n, c, a, b, u, rfl, hS, hR, hd, hn, hb, hQ⟩
  have hk5 := hd.1
  refine And.intro rfl ?_
  refine And.intro (by omega) ⟨(fun h1 => False.elim (by omega)), fun h1 => ?_⟩
  refine And.intro ⟨(by omega), (zRb rfl)⟩ ⟨(fun h7 => False.elim (by omega)), fun h7 => ?_⟩
  refine Exists.intro _ (And.intro (zinl_ok (zT14_13 0)) (And.intro rfl ?_))
  refine And.intro ⟨(by omega), (zRb rfl)⟩ ⟨(fun h2_11 => False.elim (by omega)), fun h2_11 => ?_⟩
  refine And.intro ⟨(by omega), (zRb rfl)⟩ ⟨(fun h8_11 => False.elim (by omega)), fun h8_11 => ?_⟩
  refine And.intro (Or.inr rfl) ?_
  refine And.intro (zRb rfl) (zbf rfl ?_)
  refine Exists.intro _ (And.intro (zinl_ok (zT14_13 0)) (And.intro rfl ?_))
  refine And.intro ⟨(by omega), (zRb rfl)⟩ ⟨(fun h2_18 => False.elim (by omega)), fun h2_18 => ?_⟩
  refine And.intro ⟨(by omega), (zRb rfl)⟩ ⟨(fun h8_18 => False.elim (by omega)), fun h8_18 => ?_⟩
  refine And.intro (Or.inr rfl) ?_
  refine And.intro (zRb rfl) (zbf rfl ?_)
  refine ⟨_, _, ⟨zW6i (by omega), zW6i (zRL rfl)⟩, fun z27 c27 => ?_⟩
  refine And.intro c27.2.2 ⟨(fun h28 => False.elim (by omega)), fun h28 => ?_⟩
  refine And.intro ⟨(by omega), (zRb rfl)⟩ ⟨fun h35 => ?_, fun h35 => ?_⟩
  · refine ⟨_, _, ⟨zW6i (by omega), zW6i (zRL rfl)⟩, fun z45 c45 => ?_⟩
    refine And.intro c45.2.2 ⟨fun h46 => ?_, fun h46 => ?_⟩
    · exact False.elim (by omega)
    · refine And.intro (zRb rfl) (zbf rfl ?_)
      refine And.intro (zDX hd 0 rfl) ⟨_, (zWi (zRb rfl)), ?_⟩
      refine And.intro (zDX hd 0 rfl) (zrd (v := 0) zxe ?_)
      refine And.intro (zRb rfl) (zbt rfl ?_)
      refine And.intro (zDX hd 0 rfl) (zrd (v := n) (zxs (by decide) hn) ?_)
      refine And.intro ⟨(by omega), (zRb rfl)⟩ ⟨fun h85 => ?_, (fun h85 => False.elim (by omega))⟩
      refine And.intro (zDX hd 0 rfl) (zrdR (v := some (k + 9)) (zDR hd 8 rfl) ?_)
      refine And.intro (zDX hd 0 rfl) (zrd (v := n) (zxs (by decide) hn) ?_)
      refine And.intro ⟨(by show 40 ≤ _; omega), (zDP hd 9 rfl rfl (by omega) (by omega))⟩ ⟨_, (zWi (by omega)), ?_⟩
      refine And.intro (zDX hd 0 rfl) (zrdR (v := some (k + 10)) (zDR hd 9 rfl) ?_)
      refine And.intro (zDX hd 0 rfl) (zrd (v := n) (zxu (by omega) (zxs (by decide) hn)) ?_)
      refine And.intro ⟨(by show 40 ≤ _; omega), (zDP hd 10 rfl rfl (by omega) (by omega))⟩ ⟨_, (zWi (by omega)), ?_⟩
      refine And.intro (zDX hd 0 rfl) (zrdR (v := some (k + 11)) (zDR hd 10 rfl) ?_)
      refine And.intro (zDX hd 0 rfl) (zrd (v := n) (zxu (by omega) (zxu (by omega) (zxs (by decide) hn))) ?_)
      refine And.intro ⟨(by show 40 ≤ _; omega), (zDP hd 11 rfl rfl (by omega) (by omega))⟩ ⟨_, (zWi (by omega)), ?_⟩
      refine And.intro (zDX hd 0 rfl) (zrdR (v := some (k + 12)) (zDR hd 11 rfl) ?_)
      refine And.intro (zDX hd 0 rfl) (zrd (v := n) (zxu (by omega) (zxu (by omega) (zxu (by omega) (zxs (by decide) hn)))) ?_)
      refine And.intro ⟨(by show 40 ≤ _; omega), (zDP hd 12 rfl rfl (by omega) (by omega))⟩ ⟨_, zW6i (by omega), ?_⟩
      refine And.intro (zDX hd 0 rfl) (zrd (v := n) (zxu (by omega) (zxu (by omega) (zxu (by omega) (zxs (by decide) hn)))) ?_)
      refine And.intro (zDX hd 0 rfl) ⟨_, (zWi (by omega)), ?_⟩
      refine And.intro (zDX hd 0 rfl) (zrd (v := (n + 1)) zxe ?_)
      refine hQ _ _ _ (by first | exact zxe | exact zxe.trans (by omega)) ⟨zxu (by omega) (zxu (by omega) (zxu (by omega) zxe)), zxu (by omega) (zxu (by omega) zxe), zxu (by omega) zxe, zxe⟩ (fun c j h0 h1 h2 h3 h4 => (zxcj h1 (zxcj (by omega) (zxcj (by omega) (zxcj (by omega) (zxcj h0 rfl)))))) (fun c j h0 => (zxcj (by omega) rfl))
  · refine ⟨_, _, ⟨zW6i (by omega), zW6i (zRL rfl)⟩, fun z45 c45 => ?_⟩
    refine And.intro c45.2.2 ⟨(fun h46 => False.elim (by omega)), fun h46 => ?_⟩
    refine And.intro (zRb rfl) (zbf rfl ?_)
    refine And.intro (zDX hd 0 rfl) ⟨_, (zWi (zRb rfl)), ?_⟩
    refine And.intro (zDX hd 0 rfl) (zrd (v := 0) zxe ?_)
    refine And.intro (zRb rfl) (zbt rfl ?_)
    refine And.intro (zDX hd 0 rfl) (zrd (v := n) (zxs (by decide) hn) ?_)
    refine And.intro ⟨(by omega), (zRb rfl)⟩ ⟨fun h85 => ?_, (fun h85 => False.elim (by omega))⟩
    refine And.intro (zDX hd 0 rfl) (zrdR (v := some (k + 9)) (zDR hd 8 rfl) ?_)
    refine And.intro (zDX hd 0 rfl) (zrd (v := n) (zxs (by decide) hn) ?_)
    refine And.intro ⟨(by show 40 ≤ _; omega), (zDP hd 9 rfl rfl (by omega) (by omega))⟩ ⟨_, (zWi (by omega)), ?_⟩
    refine And.intro (zDX hd 0 rfl) (zrdR (v := some (k + 10)) (zDR hd 9 rfl) ?_)
    refine And.intro (zDX hd 0 rfl) (zrd (v := n) (zxu (by omega) (zxs (by decide) hn)) ?_)
    refine And.intro ⟨(by show 40 ≤ _; omega), (zDP hd 10 rfl rfl (by omega) (by omega))⟩ ⟨_, (zWi (by omega)), ?_⟩
    refine And.intro (zDX hd 0 rfl) (zrdR (v := some (k + 11)) (zDR hd 10 rfl) ?_)
    refine And.intro (zDX hd 0 rfl) (zrd (v := n) (zxu (by omega) (zxu (by omega) (zxs (by decide) hn))) ?_)
    refine And.intro ⟨(by show 40 ≤ _; omega), (zDP hd 11 rfl rfl (by omega) (by omega))⟩ ⟨_, (zWi (by omega)), ?_⟩
    refine And.intro (zDX hd 0 rfl) (zrdR (v := some (k + 12)) (zDR hd 11 rfl) ?_)
    refine And.intro (zDX hd 0 rfl) (zrd (v := n) (zxu (by omega) (zxu (by omega) (zxu (by omega) (zxs (by decide) hn)))) ?_)
    refine And.intro ⟨(by show 40 ≤ _; omega), (zDP hd 12 rfl rfl (by omega) (by omega))⟩ ⟨_, zW6i (by omega), ?_⟩
    refine And.intro (zDX hd 0 rfl) (zrd (v := n) (zxu (by omega) (zxu (by omega) (zxu (by omega) (zxs (by decide) hn)))) ?_)
    refine And.intro (zDX hd 0 rfl) ⟨_, (zWi (by omega)), ?_⟩
    refine And.intro (zDX hd 0 rfl) (zrd (v := (n + 1)) zxe ?_)
    refine hQ _ _ _ (by first | exact zxe | exact zxe.trans (by omega)) ⟨zxu (by omega) (zxu (by omega) (zxu (by omega) zxe)), zxu (by omega) (zxu (by omega) zxe), zxu (by omega) zxe, zxe⟩ (fun c j h0 h1 h2 h3 h4 => (zxcj h1 (zxcj (by omega) (zxcj (by omega) (zxcj (by omega) (zxcj h0 rfl)))))) (fun c j h0 => (zxcj (by omega) rfl)))
