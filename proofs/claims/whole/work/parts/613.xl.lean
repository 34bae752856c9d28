/-! xl -/
def T_W_gap : ZT := fun args I L R S Q => ∃ (a : Int) (b : Int) (c : Int) (d : Int), args = [zvl a, zvl b, zvl c, zvl d] ∧ ((-20000 ≤ a ∧ a ≤ 40000) ∧ (-20000 ≤ b ∧ b ≤ 40000) ∧ (-20000 ≤ c ∧ c ≤ 40000) ∧ (-20000 ≤ d ∧ d ≤ 40000)) ∧ (a ≤ b ∧ c ≤ d) ∧ ∀ (v : Int), (v = max 0 (max (c - b) (a - d))) → (0 ≤ v ∧ v ≤ 60000) → Q (some (zvl (v))) I L R S
theorem sn_W_gap : ZSnd 1 15 6 T_W_gap := ZSnd.of (zT15_6 0) (by
  rintro args I L R S Q hz ⟨a, b, c, d, rfl, hb, hab, hQ⟩
  refine And.intro rfl ?_
  refine ⟨_, _, ⟨zW6i (by omega), zW6i (by omega)⟩, fun z3 c3 => ?_⟩
  refine And.intro c3.2.2 ⟨fun h4 => ?_, fun h4 => ?_⟩
  · refine ⟨_, _, ⟨zW6i (by omega), zW6i (by omega)⟩, fun z17 c17 => ?_⟩
    refine And.intro c17.2.2 ⟨fun h18 => ?_, fun h18 => ?_⟩
    · refine hQ _ (by omega) (by omega)
    · refine hQ _ (by omega) (by omega)
  · refine hQ _ (by omega) (by omega))
def T_W_tch : ZT := fun args I L R S Q => ∃ (k : Nat) (w : List CuR) (pc : Nat) (a : Int) (x : Nat) (b : Int) (y : Nat), args = [zvr k, zvi a, zvi b] ∧ (zSh S) ∧ (zRs R) ∧ (zDy zT15 zF15 k R S) ∧ (zPc k w pc I L) ∧ (cuG w) ∧ (w.length ≤ 60) ∧ (cuPq w pc) ∧ (a = x ∧ x < cuNp w) ∧ (b = y ∧ y < cuNp w) ∧ ∀ (v : Int), ((v = 1 ∧ cuTT w x y) ∨ (v = 0 ∧ ¬ cuTT w x y)) → Q (some (zvi (v))) I L R S
theorem sn_W_tch : ZSnd 2 15 26 T_W_tch := ZSnd.of (zT15_26 1) (by
  rintro args I L R S Q hz ⟨k, w, pc, a, x, b, y, rfl, hS, hR, hd, hPc, hG, hcl, hpq, ha, hb, hQ⟩
  have hk5 := hd.1
  obtain ⟨hp0, hpi, hpn⟩ := id hPc
  obtain ⟨n, hn⟩ : ∃ n, n = cuNp w := ⟨_, rfl⟩
  have hn60 : n ≤ 60 := by have z := cuNp_l (w := w); omega
  rw [← hn] at hp0 hpi
  have hpcn : pc ≤ n ∧ pc ≤ 40 := ⟨by have z := (cuPq_p hpq).1; omega, hpq.1⟩
  refine And.intro rfl ?_
  refine And.intro (zDX hd 0 rfl) (zrdR (v := some (k + 1)) (zDR hd 0 rfl) ?_)
  refine And.intro (Or.inr (zDP hd 1 rfl rfl (by omega) (by omega))) (fun v5 e5 r5 => ?_)
  have f5 : v5 = 1 := (by refine Eq.trans e5 ?_; repeat (first | exact ((congrArg (I (k + 1)) (show _ = x by omega)).trans (hpi x (by omega)).1.1) | refine zxu (by omega) ?_))
  refine And.intro r5 ⟨(fun h6 => False.elim (by omega)), fun h6 => ?_⟩
  refine And.intro (zDX hd 0 rfl) (zrdR (v := some (k + 1)) (zDR hd 0 rfl) ?_)
  refine And.intro (Or.inr (zDP hd 1 rfl rfl (by omega) (by omega))) (fun v14 e14 r14 => ?_)
  have f14 : v14 = 1 := (by refine Eq.trans e14 ?_; repeat (first | exact ((congrArg (I (k + 1)) (show _ = y by omega)).trans (hpi y (by omega)).1.1) | refine zxu (by omega) ?_))
  refine And.intro r14 ⟨(fun h15 => False.elim (by omega)), fun h15 => ?_⟩
  refine And.intro (zDX hd 0 rfl) (zrdR (v := some (k + 2)) (zDR hd 1 rfl) ?_)
  refine And.intro (zDP hd 2 rfl rfl (by omega) (by omega)) (fun v23 e23 r23 => ?_)
  have f23 : v23 = cg w (cuPx w x) 2 := (by refine Eq.trans e23 ?_; repeat (first | exact ((congrArg (I (k + 2)) (show _ = x by omega)).trans (hpi x (by omega)).1.2.1) | refine zxu (by omega) ?_))
  have f23b : 0 ≤ v23 ∧ v23 ≤ 3 := (by have z := (hG (cuPx w x) (cuPx_b (show x < cuNp w by omega)).1).2.2.1; omega)
  refine And.intro (zDX hd 0 rfl) (zrdR (v := some (k + 3)) (zDR hd 2 rfl) ?_)
  refine And.intro (zDP hd 3 rfl rfl (by omega) (by omega)) (fun v29 e29 r29 => ?_)
  have f29 : v29 = cuTp w (cuPx w y) := (by refine Eq.trans e29 ?_; repeat (first | exact ((congrArg (I (k + 3)) (show _ = y by omega)).trans (hpi y (by omega)).1.2.2.1) | refine zxu (by omega) ?_))
  have f29b : 0 ≤ v29 ∧ v29 ≤ 4 := (by have z := (hG (cuPx w y) (cuPx_b (show y < cuNp w by omega)).1).2.2.1; have z2 := cuTp_b (w := w) (i := cuPx w y); omega)
  refine And.intro ⟨r23, r29⟩ ⟨fun h30 => ?_, fun h30 => ?_⟩
  · refine And.intro (Or.inl rfl) ?_
    refine hQ _ ?_
    · have T := cuTo_i (w := w) (a := cuPx w x) (b := cuPx w y)
      unfold cuTT
      first
      | (refine Or.inr ⟨rfl, fun q => ?_⟩
         have z := (T.mp q).1
         omega)
      | (rw [← g88, ← g130] at T
         first
         | exact Or.inl ⟨rfl, T.mpr ⟨by omega, by rw [← show v140 = cuEr w (cuPx w x) by omega, ← show v146 = cuEr w (cuPx w y) by omega]; omega⟩⟩
         | (refine Or.inr ⟨rfl, fun q => ?_⟩
            have z := (T.mp q).2
            rw [← show v140 = cuEr w (cuPx w x) by omega, ← show v146 = cuEr w (cuPx w y) by omega] at z
            omega))
  · refine And.intro (zDX hd 0 rfl) (zrdR (v := some (k + 2)) (zDR hd 1 rfl) ?_)
    refine And.intro (zDP hd 2 rfl rfl (by omega) (by omega)) (fun v38 e38 r38 => ?_)
    have f38 : v38 = cg w (cuPx w y) 2 := (by refine Eq.trans e38 ?_; repeat (first | exact ((congrArg (I (k + 2)) (show _ = y by omega)).trans (hpi y (by omega)).1.2.1) | refine zxu (by omega) ?_))
    have f38b : 0 ≤ v38 ∧ v38 ≤ 3 := (by have z := (hG (cuPx w y) (cuPx_b (show y < cuNp w by omega)).1).2.2.1; omega)
    refine And.intro (zDX hd 0 rfl) (zrdR (v := some (k + 3)) (zDR hd 2 rfl) ?_)
    refine And.intro (zDP hd 3 rfl rfl (by omega) (by omega)) (fun v44 e44 r44 => ?_)
    have f44 : v44 = cuTp w (cuPx w x) := (by refine Eq.trans e44 ?_; repeat (first | exact ((congrArg (I (k + 3)) (show _ = x by omega)).trans (hpi x (by omega)).1.2.2.1) | refine zxu (by omega) ?_))
    have f44b : 0 ≤ v44 ∧ v44 ≤ 4 := (by have z := (hG (cuPx w x) (cuPx_b (show x < cuNp w by omega)).1).2.2.1; have z2 := cuTp_b (w := w) (i := cuPx w x); omega)
    refine And.intro ⟨r38, r44⟩ ⟨fun h45 => ?_, fun h45 => ?_⟩
    · refine And.intro (zDX hd 0 rfl) (zrdR (v := some (k + 4)) (zDR hd 3 rfl) ?_)
      refine And.intro (zDP hd 4 rfl rfl (by omega) (by omega)) (fun v55 e55 r55 => ?_)
      have f55 : v55 = cuE w (cuPx w x) 1 0 - cuEw w (cuPx w x) := (by refine Eq.trans e55 ?_; repeat (first | exact ((congrArg (L (k + 4)) (show _ = x by omega)).trans (hpi x (by omega)).2.1.1) | refine zxu (by omega) ?_))
      have f55b : -300 ≤ v55 ∧ v55 ≤ 15000 := (by have z := (cuE_b (ax := 1) (e := 0) hG (cuPx_b (show x < cuNp w by omega)).1); have z2 := cuEw_b (w := w) (i := cuPx w x); omega)
      refine And.intro (zDX hd 0 rfl) (zrdR (v := some (k + 4)) (zDR hd 3 rfl) ?_)
      refine And.intro (zDP hd 4 rfl rfl (by omega) (by omega)) (fun v61 e61 r61 => ?_)
      have f61 : v61 = cuE w (cuPx w x) 1 0 - cuEw w (cuPx w x) := (by refine Eq.trans e61 ?_; repeat (first | exact ((congrArg (L (k + 4)) (show _ = x by omega)).trans (hpi x (by omega)).2.1.1) | refine zxu (by omega) ?_))
      have f61b : -300 ≤ v61 ∧ v61 ≤ 15000 := (by have z := (cuE_b (ax := 1) (e := 0) hG (cuPx_b (show x < cuNp w by omega)).1); have z2 := cuEw_b (w := w) (i := cuPx w x); omega)
      refine And.intro (zDX hd 0 rfl) (zrdR (v := some (k + 6)) (zDR hd 5 rfl) ?_)
      refine And.intro (zDP hd 6 rfl rfl (by omega) (by omega)) (fun v67 e67 r67 => ?_)
      have f67 : v67 = cuE w (cuPx w x) 1 1 - cuE w (cuPx w x) 1 0 + 2 * cuEw w (cuPx w x) := (by refine Eq.trans e67 ?_; repeat (first | exact ((congrArg (L (k + 6)) (show _ = x by omega)).trans (hpi x (by omega)).2.2.1.1) | refine zxu (by omega) ?_))
      have f67b : -15000 ≤ v67 ∧ v67 ≤ 15600 := (by have z := (cuE_b (ax := 1) (e := 0) hG (cuPx_b (show x < cuNp w by omega)).1); have z3 := (cuE_b (ax := 1) (e := 1) hG (cuPx_b (show x < cuNp w by omega)).1); have z2 := cuEw_b (w := w) (i := cuPx w x); omega)
      refine And.intro (zDX hd 0 rfl) (zrdR (v := some (k + 4)) (zDR hd 3 rfl) ?_)
      refine And.intro (zDP hd 4 rfl rfl (by omega) (by omega)) (fun v74 e74 r74 => ?_)
      have f74 : v74 = cuE w (cuPx w y) 1 0 - cuEw w (cuPx w y) := (by refine Eq.trans e74 ?_; repeat (first | exact ((congrArg (L (k + 4)) (show _ = y by omega)).trans (hpi y (by omega)).2.1.1) | refine zxu (by omega) ?_))
      have f74b : -300 ≤ v74 ∧ v74 ≤ 15000 := (by have z := (cuE_b (ax := 1) (e := 0) hG (cuPx_b (show y < cuNp w by omega)).1); have z2 := cuEw_b (w := w) (i := cuPx w y); omega)
      refine And.intro (zDX hd 0 rfl) (zrdR (v := some (k + 4)) (zDR hd 3 rfl) ?_)
      refine And.intro (zDP hd 4 rfl rfl (by omega) (by omega)) (fun v80 e80 r80 => ?_)
      have f80 : v80 = cuE w (cuPx w y) 1 0 - cuEw w (cuPx w y) := (by refine Eq.trans e80 ?_; repeat (first | exact ((congrArg (L (k + 4)) (show _ = y by omega)).trans (hpi y (by omega)).2.1.1) | refine zxu (by omega) ?_))
      have f80b : -300 ≤ v80 ∧ v80 ≤ 15000 := (by have z := (cuE_b (ax := 1) (e := 0) hG (cuPx_b (show y < cuNp w by omega)).1); have z2 := cuEw_b (w := w) (i := cuPx w y); omega)
      refine And.intro (zDX hd 0 rfl) (zrdR (v := some (k + 6)) (zDR hd 5 rfl) ?_)
      refine And.intro (zDP hd 6 rfl rfl (by omega) (by omega)) (fun v86 e86 r86 => ?_)
      have f86 : v86 = cuE w (cuPx w y) 1 1 - cuE w (cuPx w y) 1 0 + 2 * cuEw w (cuPx w y) := (by refine Eq.trans e86 ?_; repeat (first | exact ((congrArg (L (k + 6)) (show _ = y by omega)).trans (hpi y (by omega)).2.2.1.1) | refine zxu (by omega) ?_))
      have f86b : -15000 ≤ v86 ∧ v86 ≤ 15600 := (by have z := (cuE_b (ax := 1) (e := 0) hG (cuPx_b (show y < cuNp w by omega)).1); have z3 := (cuE_b (ax := 1) (e := 1) hG (cuPx_b (show y < cuNp w by omega)).1); have z2 := cuEw_b (w := w) (i := cuPx w y); omega)
      refine ⟨_, sn_W_gap.up (by decide), ?_⟩
      refine ⟨(v55 : Int), ((v61 + v67) : Int), (v74 : Int), ((v80 + v86) : Int), rfl, (by omega), (by have z1 := cuE_ax hG (cuPx_b (show x < cuNp w by omega)).1; have z2 := cuE_ax hG (cuPx_b (show y < cuNp w by omega)).1; have z3 := cuEw_b (w := w) (i := cuPx w x); have z4 := cuEw_b (w := w) (i := cuPx w y); clear hp0; omega), ?_⟩
      intro v88o p88hv p88bhv2
      have g88 : v88o = cuGx w (cuPx w x) (cuPx w y) 1 (cuEw w (cuPx w x) + cuEw w (cuPx w y)) := (by have z := p88hv; unfold cuGx cuGp; omega)
      refine And.intro (zDX hd 0 rfl) (zrdR (v := some (k + 5)) (zDR hd 4 rfl) ?_)
      refine And.intro (zDP hd 5 rfl rfl (by omega) (by omega)) (fun v97 e97 r97 => ?_)
      have f97 : v97 = cuE w (cuPx w x) 0 0 - cuEw w (cuPx w x) := (by refine Eq.trans e97 ?_; repeat (first | exact ((congrArg (L (k + 5)) (show _ = x by omega)).trans (hpi x (by omega)).2.1.2) | refine zxu (by omega) ?_))
      have f97b : -300 ≤ v97 ∧ v97 ≤ 15000 := (by have z := (cuE_b (ax := 0) (e := 0) hG (cuPx_b (show x < cuNp w by omega)).1); have z2 := cuEw_b (w := w) (i := cuPx w x); omega)
      refine And.intro (zDX hd 0 rfl) (zrdR (v := some (k + 5)) (zDR hd 4 rfl) ?_)
      refine And.intro (zDP hd 5 rfl rfl (by omega) (by omega)) (fun v103 e103 r103 => ?_)
      have f103 : v103 = cuE w (cuPx w x) 0 0 - cuEw w (cuPx w x) := (by refine Eq.trans e103 ?_; repeat (first | exact ((congrArg (L (k + 5)) (show _ = x by omega)).trans (hpi x (by omega)).2.1.2) | refine zxu (by omega) ?_))
      have f103b : -300 ≤ v103 ∧ v103 ≤ 15000 := (by have z := (cuE_b (ax := 0) (e := 0) hG (cuPx_b (show x < cuNp w by omega)).1); have z2 := cuEw_b (w := w) (i := cuPx w x); omega)
      refine And.intro (zDX hd 0 rfl) (zrdR (v := some (k + 7)) (zDR hd 6 rfl) ?_)
      refine And.intro (zDP hd 7 rfl rfl (by omega) (by omega)) (fun v109 e109 r109 => ?_)
      have f109 : v109 = cuE w (cuPx w x) 0 1 - cuE w (cuPx w x) 0 0 + 2 * cuEw w (cuPx w x) := (by refine Eq.trans e109 ?_; repeat (first | exact ((congrArg (L (k + 7)) (show _ = x by omega)).trans (hpi x (by omega)).2.2.1.2) | refine zxu (by omega) ?_))
      have f109b : -15000 ≤ v109 ∧ v109 ≤ 15600 := (by have z := (cuE_b (ax := 0) (e := 0) hG (cuPx_b (show x < cuNp w by omega)).1); have z3 := (cuE_b (ax := 0) (e := 1) hG (cuPx_b (show x < cuNp w by omega)).1); have z2 := cuEw_b (w := w) (i := cuPx w x); omega)
      refine And.intro (zDX hd 0 rfl) (zrdR (v := some (k + 5)) (zDR hd 4 rfl) ?_)
      refine And.intro (zDP hd 5 rfl rfl (by omega) (by omega)) (fun v116 e116 r116 => ?_)
      have f116 : v116 = cuE w (cuPx w y) 0 0 - cuEw w (cuPx w y) := (by refine Eq.trans e116 ?_; repeat (first | exact ((congrArg (L (k + 5)) (show _ = y by omega)).trans (hpi y (by omega)).2.1.2) | refine zxu (by omega) ?_))
      have f116b : -300 ≤ v116 ∧ v116 ≤ 15000 := (by have z := (cuE_b (ax := 0) (e := 0) hG (cuPx_b (show y < cuNp w by omega)).1); have z2 := cuEw_b (w := w) (i := cuPx w y); omega)
      refine And.intro (zDX hd 0 rfl) (zrdR (v := some (k + 5)) (zDR hd 4 rfl) ?_)
      refine And.intro (zDP hd 5 rfl rfl (by omega) (by omega)) (fun v122 e122 r122 => ?_)
      have f122 : v122 = cuE w (cuPx w y) 0 0 - cuEw w (cuPx w y) := (by refine Eq.trans e122 ?_; repeat (first | exact ((congrArg (L (k + 5)) (show _ = y by omega)).trans (hpi y (by omega)).2.1.2) | refine zxu (by omega) ?_))
      have f122b : -300 ≤ v122 ∧ v122 ≤ 15000 := (by have z := (cuE_b (ax := 0) (e := 0) hG (cuPx_b (show y < cuNp w by omega)).1); have z2 := cuEw_b (w := w) (i := cuPx w y); omega)
      refine And.intro (zDX hd 0 rfl) (zrdR (v := some (k + 7)) (zDR hd 6 rfl) ?_)
      refine And.intro (zDP hd 7 rfl rfl (by omega) (by omega)) (fun v128 e128 r128 => ?_)
      have f128 : v128 = cuE w (cuPx w y) 0 1 - cuE w (cuPx w y) 0 0 + 2 * cuEw w (cuPx w y) := (by refine Eq.trans e128 ?_; repeat (first | exact ((congrArg (L (k + 7)) (show _ = y by omega)).trans (hpi y (by omega)).2.2.1.2) | refine zxu (by omega) ?_))
      have f128b : -15000 ≤ v128 ∧ v128 ≤ 15600 := (by have z := (cuE_b (ax := 0) (e := 0) hG (cuPx_b (show y < cuNp w by omega)).1); have z3 := (cuE_b (ax := 0) (e := 1) hG (cuPx_b (show y < cuNp w by omega)).1); have z2 := cuEw_b (w := w) (i := cuPx w y); omega)
      refine ⟨_, sn_W_gap.up (by decide), ?_⟩
      refine ⟨(v97 : Int), ((v103 + v109) : Int), (v116 : Int), ((v122 + v128) : Int), rfl, (by omega), (by have z1 := cuE_ax hG (cuPx_b (show x < cuNp w by omega)).1; have z2 := cuE_ax hG (cuPx_b (show y < cuNp w by omega)).1; have z3 := cuEw_b (w := w) (i := cuPx w x); have z4 := cuEw_b (w := w) (i := cuPx w y); clear hp0; omega), ?_⟩
      intro v130o p130hv p130bhv2
      have g130 : v130o = cuGx w (cuPx w x) (cuPx w y) 0 (cuEw w (cuPx w x) + cuEw w (cuPx w y)) := (by have z := p130hv; unfold cuGx cuGp; omega)
      refine And.intro (zDX hd 0 rfl) (zrdR (v := some (k + 8)) (zDR hd 7 rfl) ?_)
      refine And.intro (zDP hd 8 rfl rfl (by omega) (by omega)) (fun v140 e140 r140 => ?_)
      have f140 : v140 = cuEr w (cuPx w x) := (by refine Eq.trans e140 ?_; repeat (first | exact ((congrArg (L (k + 8)) (show _ = x by omega)).trans (hpi x (by omega)).2.2.2) | refine zxu (by omega) ?_))
      have f140b : 0 ≤ v140 ∧ v140 ≤ 300 := (by have z2 := cuEw_b (w := w) (i := cuPx w x); omega)
      refine And.intro (zDX hd 0 rfl) (zrdR (v := some (k + 8)) (zDR hd 7 rfl) ?_)
      refine And.intro (zDP hd 8 rfl rfl (by omega) (by omega)) (fun v146 e146 r146 => ?_)
      have f146 : v146 = cuEr w (cuPx w y) := (by refine Eq.trans e146 ?_; repeat (first | exact ((congrArg (L (k + 8)) (show _ = y by omega)).trans (hpi y (by omega)).2.2.2) | refine zxu (by omega) ?_))
      have f146b : 0 ≤ v146 ∧ v146 ≤ 300 := (by have z2 := cuEw_b (w := w) (i := cuPx w y); omega)
      have mu152 : 0 ≤ v88o * v88o ∧ v88o * v88o ≤ 60000 * 60000 := zmb (by omega) (by omega) (by omega) (by omega)
      have mu157 : 0 ≤ v130o * v130o ∧ v130o * v130o ≤ 60000 * 60000 := zmb (by omega) (by omega) (by omega) (by omega)
      have mu163 : 0 ≤ (v140 + v146) * (v140 + v146) ∧ (v140 + v146) * (v140 + v146) ≤ 600 * 600 := zmb (by omega) (by omega) (by omega) (by omega)
      refine ⟨_, _, ⟨zW6i (by omega), zW6i (by omega)⟩, fun z164 c164 => ?_⟩
      refine And.intro c164.2.2 ⟨fun h165 => ?_, fun h165 => ?_⟩
      · refine And.intro (Or.inl rfl) ?_
        refine hQ _ ?_
        · have T := cuTo_i (w := w) (a := cuPx w x) (b := cuPx w y)
          unfold cuTT
          first
          | (refine Or.inr ⟨rfl, fun q => ?_⟩
             have z := (T.mp q).1
             omega)
          | (rw [← g88, ← g130] at T
             first
             | exact Or.inl ⟨rfl, T.mpr ⟨by omega, by rw [← show v140 = cuEr w (cuPx w x) by omega, ← show v146 = cuEr w (cuPx w y) by omega]; omega⟩⟩
             | (refine Or.inr ⟨rfl, fun q => ?_⟩
                have z := (T.mp q).2
                rw [← show v140 = cuEr w (cuPx w x) by omega, ← show v146 = cuEr w (cuPx w y) by omega] at z
                omega))
      · refine And.intro (Or.inr rfl) ?_
        refine hQ _ ?_
        · have T := cuTo_i (w := w) (a := cuPx w x) (b := cuPx w y)
          unfold cuTT
          first
          | (refine Or.inr ⟨rfl, fun q => ?_⟩
             have z := (T.mp q).1
             omega)
          | (rw [← g88, ← g130] at T
             first
             | exact Or.inl ⟨rfl, T.mpr ⟨by omega, by rw [← show v140 = cuEr w (cuPx w x) by omega, ← show v146 = cuEr w (cuPx w y) by omega]; omega⟩⟩
             | (refine Or.inr ⟨rfl, fun q => ?_⟩
                have z := (T.mp q).2
                rw [← show v140 = cuEr w (cuPx w x) by omega, ← show v146 = cuEr w (cuPx w y) by omega] at z
                omega))
    · refine And.intro (Or.inl rfl) ?_
      refine hQ _ ?_
      · have T := cuTo_i (w := w) (a := cuPx w x) (b := cuPx w y)
        unfold cuTT
        first
        | (refine Or.inr ⟨rfl, fun q => ?_⟩
           have z := (T.mp q).1
           omega)
        | (rw [← g88, ← g130] at T
           first
           | exact Or.inl ⟨rfl, T.mpr ⟨by omega, by rw [← show v140 = cuEr w (cuPx w x) by omega, ← show v146 = cuEr w (cuPx w y) by omega]; omega⟩⟩
           | (refine Or.inr ⟨rfl, fun q => ?_⟩
              have z := (T.mp q).2
              rw [← show v140 = cuEr w (cuPx w x) by omega, ← show v146 = cuEr w (cuPx w y) by omega] at z
              omega)))
