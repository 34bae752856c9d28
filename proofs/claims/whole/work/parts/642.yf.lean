/-! yf -/
def T_Y_row0 : ZT := fun args I L R S Q => ∃ (net : Int) (l : Int) (x : Int) (y : Int) (z : Int) (u : Int) (n : Nat), args = [zvr 165, zvi net, zvi l, zvi x, zvi y, zvi z, zvi u] ∧ (zSh S) ∧ (zRs R) ∧ (I 165 41 = 0) ∧ (I 165 42 = n) ∧ (n ≤ 100000) ∧ ((0 ≤ net ∧ net ≤ 11) ∧ (0 ≤ l ∧ l ≤ 3) ∧ ((0 ≤ x ∧ x ≤ 15) ∧ (0 ≤ y ∧ y ≤ 15) ∧ (0 ≤ z ∧ z ≤ 15) ∧ 0 ≤ u ∧ u ≤ 15)) ∧ ∀ (I' : ZI), (I' 165 42 = n + 1) → (∀ c j : Nat, ¬ (c = 165 ∧ j = 42) → I' c j = I c j) → Q none I' L R S
theorem sn_Y_row0 : ZSnd 4 21 57 T_Y_row0 := ZSnd.of (zT21_57 3) (by
  rintro args I L R S Q hz ⟨net, l, x, y, z, u, n, rfl, hS, hR, hmk, hn, hn2, hr, hQ⟩
  refine And.intro rfl ?_
  refine And.intro (zA_165 hS) ⟨_, sn_Y_sh0.up (by decide), ?_⟩
  refine ⟨(net : Int), (l : Int), (0 : Int), (0 : Int), (x : Int), (y : Int), (z : Int), (u : Int), (100 : Int), n, rfl, hS, hR, hmk, hn, (by omega), ?_⟩
  intro I14o p14h42 p14bfr
  refine And.intro (zA_165 hS) (zrd (v := 0) ((p14bfr 165 41 (by omega)).trans hmk) ?_)
  refine And.intro (zRb rfl) (zbf rfl ?_)
  refine hQ _ p14h42 (fun c j h0 => ((p14bfr c j h0).trans rfl)))
def T_Y_row1 : ZT := fun args I L R S Q => ∃ (k : Nat) (q : Nat) (w : List CuR) (pc : Nat) (net : Int) (l : Int) (x : Int) (y : Int) (z : Int) (u : Int) (n : Nat) (D : Int), args = [zvr 165, zvi net, zvi l, zvi x, zvi y, zvi z, zvi u] ∧ (zSh S) ∧ (zRs R) ∧ (R 165 32 = some k) ∧ (zDy zT14 zF14 k R S) ∧ (R 165 31 = some q) ∧ (zDy zT15 zF15 q R S) ∧ (I 165 41 = 1) ∧ (I 165 42 = n) ∧ (n ≤ 100000) ∧ (zCk k w I L) ∧ (zFrs k w.length I L) ∧ (zPc q w pc I L) ∧ (I k 1 = D) ∧ (I q 1 = D) ∧ (D ≤ 8) ∧ (302 ≤ k ∧ 302 ≤ q ∧ (k + 17 < q ∨ q + 13 < k)) ∧ (pc ≤ w.length ∧ pc ≤ cuNp w) ∧ (w.length ≤ 59) ∧ ((0 ≤ net ∧ net ≤ 11) ∧ (0 ≤ l ∧ l ≤ 3) ∧ ((0 ≤ x ∧ x ≤ 15) ∧ (0 ≤ y ∧ y ≤ 15) ∧ (0 ≤ z ∧ z ≤ 15) ∧ 0 ≤ u ∧ u ≤ 15) ∧ l < D) ∧ ((x < z ∧ y = u) ∨ (x = z ∧ y < u)) ∧ ∀ (I' : ZI) (L' : ZI), (I' 165 42 = n + 1) → (zCk k (w ++ [cRw 0 net l (16 * y + x) (16 * u + z)]) I' L') → (zFrs k (w.length + 1) I' L') → (zPc q (w ++ [cRw 0 net l (16 * y + x) (16 * u + z)]) pc I' L') → (∀ c j : Nat, ¬ (c = 165 ∧ j = 42) → ¬ (c = k ∧ j = 0) → ¬ (c = k ∧ j = 2) → ¬ (c = k + 1 ∧ j = w.length) → ¬ (c = k + 2 ∧ j = w.length) → ¬ (c = k + 3 ∧ j = w.length) → ¬ (c = k + 4 ∧ j = w.length) → ¬ (c = k + 5 ∧ j = w.length) → ¬ (c = q ∧ j = 0) → ¬ (c = q ∧ j = 2) → ¬ (c = q + 1 ∧ j = cuNp w) → ¬ (c = q + 2 ∧ j = cuNp w) → ¬ (c = q + 3 ∧ j = cuNp w) → ¬ (c = q + 9 ∧ j = cuNp w) → I' c j = I c j) → (∀ c j : Nat, ¬ (c = k + 6 ∧ 8 * w.length ≤ j) → ¬ (c = k + 7 ∧ 8 * w.length ≤ j) → ¬ (c = k + 8 ∧ j = w.length) → ¬ (c = q + 4 ∧ j = cuNp w) → ¬ (c = q + 5 ∧ j = cuNp w) → ¬ (c = q + 6 ∧ j = cuNp w) → ¬ (c = q + 7 ∧ j = cuNp w) → ¬ (c = q + 8 ∧ j = cuNp w) → L' c j = L c j) → Q none I' L' R S
theorem sn_Y_row1 : ZSnd 4 21 57 T_Y_row1 := ZSnd.of (zT21_57 3) (by
  rintro args I L R S Q hz ⟨k, q, w, pc, net, l, x, y, z, u, n, D, rfl, hS, hR, hrf, hd, hrc, hdq, hmk, hn, hn2, hCk, hFr, hPc, hD_, hD2, hD8, hk, hpc, hwl, hr, hxz, hQ⟩
  obtain ⟨hp0, hpi, hpn⟩ := id hPc
  have hnq := cuNp_l (w := w)
  have hra0 : cuRa 0 = 100 := rfl
  have hkd0 : cuKd 0 = 0 := rfl
  refine And.intro rfl ?_
  refine And.intro (zA_165 hS) ⟨_, sn_Y_sh1.up (by decide), ?_⟩
  refine ⟨k, w, (net : Int), (l : Int), (0 : Int), (0 : Int), (x : Int), (y : Int), (z : Int), (u : Int), (100 : Int), n, D, rfl, hS, hR, hrf, hd, hmk, hn, (by omega), (by first | exact (zCk_fr hCk (fun c j h => rfl) (fun c j h => rfl)) | (clear hQ; grind [xu])), (by first | exact (zFrs_fr hFr (fun c j h => rfl) (fun c j h => rfl)) | (clear hQ; grind [xu])), (by omega), hD_, ⟨by omega, by omega, by omega, hkd0.symm, hra0.symm, by omega, by omega, by omega⟩, ⟨fun h => absurd rfl h, fun _ => by omega⟩, (by omega), ?_⟩
  intro I14o L14o p14h42 p14bhCk2 p14bbhFr2 p14bbbfr p14bbbbfrL
  refine And.intro (zA_165 hS) (zrd (v := 1) ((p14bbbfr 165 41 (by omega) (by omega) (by omega) (by omega) (by omega) (by omega) (by omega) (by omega)).trans hmk) ?_)
  refine And.intro (zRb rfl) (zbt rfl ?_)
  refine And.intro (zA_165 hS) (zrdR (v := some q) hrc ?_)
  refine And.intro (by omega) ?_
  refine And.intro (by omega) ?_
  refine And.intro (by omega) ?_
  refine And.intro (by omega) ?_
  refine And.intro (zDX hdq 0 rfl) ⟨_, sn_W_shp.up (by decide), ?_⟩
  refine ⟨_, cuNp w, D, (l : Int), (((1000 * x) - 100) : Int), (((1000 * y) - 100) : Int), (((1000 * (z - x)) + 200) : Int), (((1000 * (u - y)) + 200) : Int), rfl, hS, hR, hdq, ((p14bbbfr q 2 (by omega) (by omega) (by omega) (by omega) (by omega) (by omega) (by omega) (by omega)).trans hp0), (by omega), ((p14bbbfr q 1 (by omega) (by omega) (by omega) (by omega) (by omega) (by omega) (by omega) (by omega)).trans hD2), (by omega), ?_⟩
  intro v78o I78o L78o p78hv p78bh2 p78bbhw p78bbbfr p78bbbbfrL
  refine hQ _ _ (Eq.trans (b := ((n + 1) : Int)) ((p78bbbfr 165 42 (by omega) (by omega) (by omega) (by omega) (by omega) (by omega)).trans p14h42) (by omega)) (zCk_fr p14bhCk2 (fun c j h => p78bbbfr c j (by omega) (by omega) (by omega) (by omega) (by omega) (by omega)) (fun c j h => p78bbbbfrL c j (by omega) (by omega) (by omega) (by omega) (by omega))) (zFrs_fr p14bbhFr2 (fun c j h => p78bbbfr c j (by omega) (by omega) (by omega) (by omega) (by omega) (by omega)) (fun c j h => p78bbbbfrL c j (by omega) (by omega) (by omega) (by omega) (by omega))) (zPc_r hPc hpc rfl (by omega) p78bh2 p78bbhw (fun c j h => (p78bbbfr c j (by omega) (by omega) (by omega) (by omega) (by omega) (by omega)).trans ((p14bbbfr c j (by omega) (by omega) (by omega) (by omega) (by omega) (by omega) (by omega) (by omega)).trans rfl)) (fun c j h => (p78bbbbfrL c j (by omega) (by omega) (by omega) (by omega) (by omega)).trans ((p14bbbbfrL c j (by omega) (by omega) (by omega)).trans rfl)) (fun j hj => (p78bbbfr (q + 10) j (by omega) (by omega) (by omega) (by omega) (by omega) (by omega)).trans ((p14bbbfr (q + 10) j (by omega) (by omega) (by omega) (by omega) (by omega) (by omega) (by omega) (by omega)).trans rfl))) (fun c j h0 h1 h2 h3 h4 h5 h6 h7 h8 h9 h10 h11 h12 h13 => ((p78bbbfr c j h8 h9 (by omega) (by omega) (by omega) (by omega)).trans ((p14bbbfr c j h0 h1 h2 (by omega) (by omega) (by omega) (by omega) (by omega)).trans rfl))) (fun c j h0 h1 h2 h3 h4 h5 h6 h7 => ((p78bbbbfrL c j (by omega) (by omega) (by omega) (by omega) (by omega)).trans ((p14bbbbfrL c j (by omega) (by omega) (by omega)).trans rfl))))
