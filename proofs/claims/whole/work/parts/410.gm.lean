/-! gm -/
def T_M_route0 : ZT := fun args I L R S Q => ∃ (r : Int), args = [zvr 165, zvi r] ∧ (zSh S) ∧ (zRs R) ∧ (R 165 12 = none) ∧ ∀ (I' : ZI), (I' 165 0 = 3) → (∀ c j : Nat, ¬ (c = 165 ∧ j = 0) → I' c j = I c j) → Q (some (zvi (-1))) I' L R S
theorem sn_M_route0 : ZSnd 9 21 55 T_M_route0 := ZSnd.of (zT21_55 8) (by
  rintro args I L R S Q hz ⟨r, rfl, hS, hR, hg, hQ⟩
  refine And.intro rfl ?_
  refine And.intro (zA_165 hS) (zrdR (v := none) hg ?_)
  refine And.intro (zA_165 hS) (Exists.intro _ (And.intro (zinl_ok (zT21_47 7)) (And.intro rfl ?_)))
  refine And.intro (zA_165 hS) ⟨_, (zWi (zRb rfl)), ?_⟩
  refine hQ _ zxe (fun c j h0 => (zxcj h0 rfl)))
def T_M_way0 : ZT := fun args I L R S Q => ∃ (n : Int) (kk : Int) (w : Int), args = [zvr 165, zvi n, zvi kk, zvi w] ∧ (zSh S) ∧ (zRs R) ∧ (R 165 12 = none) ∧ Q (some (zvi (-1))) I L R S
theorem sn_M_way0 : ZSnd 3 21 77 T_M_way0 := ZSnd.of (zT21_77 2) (by
  rintro args I L R S Q hz ⟨n, kk, w, rfl, hS, hR, hg, hQ⟩
  refine And.intro rfl ?_
  refine And.intro (zA_165 hS) (zrdR (v := none) hg ?_)
  refine hQ )
def T_M_cost0 : ZT := fun args I L R S Q => ∃ (n : Int), args = [zvr 165, zvi n] ∧ (zSh S) ∧ (zRs R) ∧ (R 165 12 = none) ∧ Q (some (zvl (-1))) I L R S
theorem sn_M_cost0 : ZSnd 3 21 8 T_M_cost0 := ZSnd.of (zT21_8 2) (by
  rintro args I L R S Q hz ⟨n, rfl, hS, hR, hg, hQ⟩
  refine And.intro rfl ?_
  refine And.intro (zA_165 hS) (zrdR (v := none) hg ?_)
  refine hQ )
def T_M_blk0 : ZT := fun args I L R S Q => ∃ (n : Int) (kk : Int), args = [zvr 165, zvi n, zvi kk] ∧ (zSh S) ∧ (zRs R) ∧ (R 165 12 = none) ∧ Q (some (zvi (-1))) I L R S
theorem sn_M_blk0 : ZSnd 3 21 3 T_M_blk0 := ZSnd.of (zT21_3 2) (by
  rintro args I L R S Q hz ⟨n, kk, rfl, hS, hR, hg, hQ⟩
  refine And.intro rfl ?_
  refine And.intro (zA_165 hS) (zrdR (v := none) hg ?_)
  refine hQ )
def T_M_bar0 : ZT := fun args I L R S Q => ∃ (l : Int) (i : Int) (j : Int), args = [zvr 165, zvi l, zvi i, zvi j] ∧ (zSh S) ∧ (zRs R) ∧ (R 165 12 = none) ∧ ∀ (I' : ZI), (I' 165 0 = 3) → (∀ c j : Nat, ¬ (c = 165 ∧ j = 0) → I' c j = I c j) → Q (some (zvi (0))) I' L R S
theorem sn_M_bar0 : ZSnd 3 21 2 T_M_bar0 := ZSnd.of (zT21_2 2) (by
  rintro args I L R S Q hz ⟨l, i, j, rfl, hS, hR, hg, hQ⟩
  refine And.intro rfl ?_
  refine And.intro (zA_165 hS) (zrdR (v := none) hg ?_)
  refine And.intro (zA_165 hS) (Exists.intro _ (And.intro (zinl_ok (zT21_48 1)) (And.intro rfl ?_)))
  refine And.intro (zA_165 hS) ⟨_, (zWi (zRb rfl)), ?_⟩
  refine And.intro (zRb rfl) (zbf rfl ?_)
  refine And.intro (Or.inr rfl) ?_
  refine And.intro (zRb rfl) (zbf rfl ?_)
  refine And.intro (Or.inl rfl) ?_
  refine hQ _ zxe (fun c j h0 => (zxcj h0 rfl)))
def T_M_cst0 : ZT := fun args I L R S Q => ∃ (l : Int) (a : Int) (y : Int) (n : Int), args = [zvr 165, zvi l, zvi a, zvi y, zvi n] ∧ (zSh S) ∧ (zRs R) ∧ (R 165 12 = none) ∧ ∀ (I' : ZI), (I' 165 0 = 3) → (∀ c j : Nat, ¬ (c = 165 ∧ j = 0) → I' c j = I c j) → Q (some (zvi (0))) I' L R S
theorem sn_M_cst0 : ZSnd 3 21 7 T_M_cst0 := ZSnd.of (zT21_7 2) (by
  rintro args I L R S Q hz ⟨l, a, y, n, rfl, hS, hR, hg, hQ⟩
  refine And.intro rfl ?_
  refine And.intro (zA_165 hS) (zrdR (v := none) hg ?_)
  refine And.intro (zA_165 hS) (Exists.intro _ (And.intro (zinl_ok (zT21_48 1)) (And.intro rfl ?_)))
  refine And.intro (zA_165 hS) ⟨_, (zWi (zRb rfl)), ?_⟩
  refine And.intro (zRb rfl) (zbf rfl ?_)
  refine And.intro (Or.inr rfl) ?_
  refine And.intro (zRb rfl) (zbf rfl ?_)
  refine And.intro (Or.inl rfl) ?_
  refine hQ _ zxe (fun c j h0 => (zxcj h0 rfl)))
def T_M_route : ZT := fun args I L R S Q => ∃ (k : Nat) (s : BdS) (r : Int) (hb_ : Nat) (rb : Nat), args = [zvr 165, zvi r] ∧ (zSh S) ∧ (zRs R) ∧ (R 165 12 = some k) ∧ (zDy zT17 zF17 k R S) ∧ (302 ≤ k) ∧ (zBB k (-1) s I L) ∧ (bGd s) ∧ (r32 r) ∧ (∀ c, c < 1024 → bhi s c ≤ hb_) ∧ (∀ m, m < bnn s → 0 ≤ bN s m 4 ∧ bN s m 4 ≤ rb) ∧ (hb_ + 260 ≤ 400000) ∧ (rb + 1300 ≤ 1900000000) ∧ ∀ (v : Int) (I' : ZI) (L' : ZI), (v = if 0 ≤ bRtV s r then bRtV s r else -1) → (I' 165 0 = if 0 ≤ bRtV s r then 0 else -(bRtV s r)) → (zBB k (-1) (bRtS s r) I' L') → (bGd (bRtS s r) ∧ (∀ c, c < 1024 → bhi (bRtS s r) c ≤ hb_ + 240) ∧ (∀ m, m < bnn (bRtS s r) → 0 ≤ bN (bRtS s r) m 4 ∧ bN (bRtS s r) m 4 ≤ rb + 1200)) → (∀ c j : Nat, ¬ c = k + 3 → ¬ c = k + 10 → ¬ c = k + 11 → ¬ c = k + 12 → ¬ c = k + 14 → ¬ c = k + 15 → ¬ c = k + 17 → ¬ c = k + 18 → ¬ (c = k ∧ j = 21) → ¬ (c = k ∧ j = 0) → ¬ (c = 165 ∧ j = 0) → I' c j = I c j) → (∀ c j : Nat, ¬ c = k + 6 → ¬ c = k + 13 → ¬ c = k + 16 → ¬ (c = k ∧ j = 4) → L' c j = L c j) → Q (some (zvi (v))) I' L' R S
theorem sn_M_route : ZSnd 9 21 55 T_M_route := ZSnd.of (zT21_55 8) (by
  rintro args I L R S Q hz ⟨k, s, r, hb_, rb, rfl, hS, hR, hg, hd, hk, hBB, hGd, hr, hhi, hrp, hhb, hrb, hQ⟩
  refine And.intro rfl ?_
  refine And.intro (zA_165 hS) (zrdR (v := some k) hg ?_)
  refine And.intro (zA_165 hS) (zrdR (v := some k) hg ?_)
  refine And.intro (zDX hd 0 rfl) ⟨_, sn_G_run.up (by decide), ?_⟩
  refine ⟨k, s, (r : Int), hb_, rb, rfl, hd, (by first | exact (zBB_fr hBB (fun c j h => rfl) (fun c j h => rfl)) | (clear hQ; grind [xu])), (by first | exact hGd | (clear hQ; grind [xu])), (by omega), (by first | exact hhi | (clear hQ; grind [xu])), (by first | exact hrp | (clear hQ; grind [xu])), (by omega), (by omega), ?_⟩
  intro v18o I18o L18o p18hth p18bhBB2 p18bbhGd2 p18bbbfr p18bbbbfrL
  refine And.intro (zA_165 hS) (zrdR (v := some k) hg ?_)
  refine And.intro (zDX hd 0 rfl) (Exists.intro _ (And.intro (zinl_ok (zT17_32 7)) (And.intro rfl ?_)))
  refine And.intro (zDX hd 0 rfl) (fun v1_26 e1_26 r1_26 => ?_)
  refine And.intro r1_26 ⟨fun h29 => ?_, fun h29 => ?_⟩
  · refine And.intro (zA_165 hS) (Exists.intro _ (And.intro (zinl_ok (zT21_47 7)) (And.intro rfl ?_)))
    refine And.intro (zA_165 hS) ⟨_, (zWi (zRb rfl)), ?_⟩
    refine hQ _ _ _ ?_ ?_ (zBB_fr p18bhBB2 (fun c j h => zxcj (by omega) rfl) (fun c j h => rfl)) p18bbhGd2 (fun c j h0 h1 h2 h3 h4 h5 h6 h7 h8 h9 h10 => (zxcj h10 ((p18bbbfr c j (by omega) (by omega) (by omega) (by omega) (by omega) (by omega) (by omega) (by omega) (by omega) (by omega)).trans rfl))) (fun c j h0 h1 h2 h3 => ((p18bbbbfrL c j (by omega) (by omega) (by omega) (by omega)).trans rfl))
    · rcases p18hth with w | w
      · first
        | (exfalso; omega)
        | (rw [if_pos (by omega)]
           first
           | omega
           | exact zxe)
      · first
        | (exfalso; omega)
        | (rw [w.2]
           first
           | (rw [if_neg (by decide)]; done)
           | (rw [if_neg (by decide)]; exact zxe))
    · rcases p18hth with w | w
      · first
        | (exfalso; omega)
        | (rw [if_pos (by omega)]
           first
           | omega
           | exact zxe)
      · first
        | (exfalso; omega)
        | (rw [w.2]
           first
           | (rw [if_neg (by decide)]; done)
           | (rw [if_neg (by decide)]; exact zxe))
  · refine And.intro (zA_165 hS) (Exists.intro _ (And.intro (zinl_ok (zT21_12 7)) (And.intro rfl ?_)))
    refine And.intro (zA_165 hS) ⟨_, (zWi (zRb rfl)), ?_⟩
    refine hQ _ _ _ ?_ ?_ (zBB_fr p18bhBB2 (fun c j h => zxcj (by omega) rfl) (fun c j h => rfl)) p18bbhGd2 (fun c j h0 h1 h2 h3 h4 h5 h6 h7 h8 h9 h10 => (zxcj h10 ((p18bbbfr c j (by omega) (by omega) (by omega) (by omega) (by omega) (by omega) (by omega) (by omega) (by omega) (by omega)).trans rfl))) (fun c j h0 h1 h2 h3 => ((p18bbbbfrL c j (by omega) (by omega) (by omega) (by omega)).trans rfl))
    · rcases p18hth with w | w
      · first
        | (exfalso; omega)
        | (rw [if_pos (by omega)]
           first
           | omega
           | exact zxe)
      · first
        | (exfalso; omega)
        | (rw [w.2]
           first
           | (rw [if_neg (by decide)]; done)
           | (rw [if_neg (by decide)]; exact zxe))
    · rcases p18hth with w | w
      · first
        | (exfalso; omega)
        | (rw [if_pos (by omega)]
           first
           | omega
           | exact zxe)
      · first
        | (exfalso; omega)
        | (rw [w.2]
           first
           | (rw [if_neg (by decide)]; done)
           | (rw [if_neg (by decide)]; exact zxe)))
def T_M_way : ZT := fun args I L R S Q => ∃ (k : Nat) (s : BdS) (n : Int) (kk : Int) (w : Int), args = [zvr 165, zvi n, zvi kk, zvi w] ∧ (zSh S) ∧ (zRs R) ∧ (R 165 12 = some k) ∧ (zDy zT17 zF17 k R S) ∧ (302 ≤ k) ∧ (zBB k (-1) s I L) ∧ (bGd s) ∧ (r32 n ∧ r32 kk ∧ r32 w) ∧ ∀ (v : Int) (I' : ZI), (v = bWp s n kk w) → (∀ c j : Nat, ¬ (c = k ∧ j = 0) → I' c j = I c j) → Q (some (zvi (v))) I' L R S
theorem sn_M_way : ZSnd 3 21 77 T_M_way := ZSnd.of (zT21_77 2) (by
  rintro args I L R S Q hz ⟨k, s, n, kk, w, rfl, hS, hR, hg, hd, hk, hBB, hGd, hr, hQ⟩
  refine And.intro rfl ?_
  refine And.intro (zA_165 hS) (zrdR (v := some k) hg ?_)
  refine And.intro (zA_165 hS) (zrdR (v := some k) hg ?_)
  refine And.intro (zDX hd 0 rfl) ⟨_, sn_G_piece.up (by decide), ?_⟩
  refine ⟨k, s, (n : Int), (kk : Int), (w : Int), rfl, hd, (by first | exact (zBB_fr hBB (fun c j h => rfl) (fun c j h => rfl)) | (clear hQ; grind [xu])), (by first | exact hGd | (clear hQ; grind [xu])), (by omega), ?_⟩
  intro v16o I16o p16hth p16bfr
  refine And.intro (zA_165 hS) (zrdR (v := some k) hg ?_)
  refine And.intro (zDX hd 0 rfl) (Exists.intro _ (And.intro (zinl_ok (zT17_32 1)) (And.intro rfl ?_)))
  refine And.intro (zDX hd 0 rfl) (fun v1_25 e1_25 r1_25 => ?_)
  refine And.intro r1_25 ⟨fun h28 => ?_, fun h28 => ?_⟩
  · refine hQ _ _ (by rcases p16hth with w | w <;> omega) (fun c j h0 => ((p16bfr c j (by omega)).trans rfl))
  · refine hQ _ _ (by rcases p16hth with w | w <;> omega) (fun c j h0 => ((p16bfr c j (by omega)).trans rfl)))
def T_M_cost : ZT := fun args I L R S Q => ∃ (k : Nat) (s : BdS) (n : Int), args = [zvr 165, zvi n] ∧ (zSh S) ∧ (zRs R) ∧ (R 165 12 = some k) ∧ (zDy zT17 zF17 k R S) ∧ (302 ≤ k) ∧ (zBB k (-1) s I L) ∧ (bGd s) ∧ (r32 n) ∧ ∀ (v : Int) (I' : ZI), (v = gCo s n) → (∀ c j : Nat, ¬ (c = k ∧ j = 0) → I' c j = I c j) → Q (some (zvl (v))) I' L R S
theorem sn_M_cost : ZSnd 3 21 8 T_M_cost := ZSnd.of (zT21_8 2) (by
  rintro args I L R S Q hz ⟨k, s, n, rfl, hS, hR, hg, hd, hk, hBB, hGd, hr, hQ⟩
  refine And.intro rfl ?_
  refine And.intro (zA_165 hS) (zrdR (v := some k) hg ?_)
  refine And.intro (zA_165 hS) (zrdR (v := some k) hg ?_)
  refine And.intro (zDX hd 0 rfl) ⟨_, sn_G_cost.up (by decide), ?_⟩
  refine ⟨k, s, (n : Int), rfl, hd, (by first | exact (zBB_fr hBB (fun c j h => rfl) (fun c j h => rfl)) | (clear hQ; grind [xu])), (by first | exact hGd | (clear hQ; grind [xu])), (by omega), ?_⟩
  intro v16o I16o p16hth p16bfr
  refine And.intro (zA_165 hS) (zrdR (v := some k) hg ?_)
  refine And.intro (zDX hd 0 rfl) (Exists.intro _ (And.intro (zinl_ok (zT17_32 1)) (And.intro rfl ?_)))
  refine And.intro (zDX hd 0 rfl) (fun v1_24 e1_24 r1_24 => ?_)
  refine And.intro r1_24 ⟨fun h27 => ?_, fun h27 => ?_⟩
  · refine hQ _ _ (by rcases p16hth with w | w <;> omega) (fun c j h0 => ((p16bfr c j (by omega)).trans rfl))
  · refine hQ _ _ (by rcases p16hth with w | w <;> omega) (fun c j h0 => ((p16bfr c j (by omega)).trans rfl)))
def T_M_blk : ZT := fun args I L R S Q => ∃ (k : Nat) (s : BdS) (n : Int) (kk : Int), args = [zvr 165, zvi n, zvi kk] ∧ (zSh S) ∧ (zRs R) ∧ (R 165 12 = some k) ∧ (zDy zT17 zF17 k R S) ∧ (302 ≤ k) ∧ (zBB k (-1) s I L) ∧ (bGd s) ∧ (r32 n ∧ r32 kk) ∧ (gB5 s) ∧ ∀ (v : Int) (I' : ZI), (v = bBlk s n kk) → (∀ c j : Nat, ¬ (c = k ∧ j = 0) → I' c j = I c j) → Q (some (zvi (v))) I' L R S
theorem sn_M_blk : ZSnd 3 21 3 T_M_blk := ZSnd.of (zT21_3 2) (by
  rintro args I L R S Q hz ⟨k, s, n, kk, rfl, hS, hR, hg, hd, hk, hBB, hGd, hr, hB5, hQ⟩
  refine And.intro rfl ?_
  refine And.intro (zA_165 hS) (zrdR (v := some k) hg ?_)
  refine And.intro (zA_165 hS) (zrdR (v := some k) hg ?_)
  refine And.intro (zDX hd 0 rfl) ⟨_, sn_G_bkg.up (by decide), ?_⟩
  refine ⟨k, s, (n : Int), (kk : Int), rfl, hd, (by first | exact (zBB_fr hBB (fun c j h => rfl) (fun c j h => rfl)) | (clear hQ; grind [xu])), (by first | exact hGd | (clear hQ; grind [xu])), (by omega), (by first | exact hB5 | (clear hQ; grind [xu])), ?_⟩
  intro v15o I15o p15hth p15bfr
  refine And.intro (zA_165 hS) (zrdR (v := some k) hg ?_)
  refine And.intro (zDX hd 0 rfl) (Exists.intro _ (And.intro (zinl_ok (zT17_32 1)) (And.intro rfl ?_)))
  refine And.intro (zDX hd 0 rfl) (fun v1_23 e1_23 r1_23 => ?_)
  refine And.intro r1_23 ⟨fun h26 => ?_, fun h26 => ?_⟩
  · refine hQ _ _ (by rcases p15hth with w | w <;> omega) (fun c j h0 => ((p15bfr c j (by omega)).trans rfl))
  · refine hQ _ _ (by rcases p15hth with w | w <;> omega) (fun c j h0 => ((p15bfr c j (by omega)).trans rfl)))
def T_M_bar : ZT := fun args I L R S Q => ∃ (k : Nat) (s : BdS) (l : Int) (i : Int) (j : Int), args = [zvr 165, zvi l, zvi i, zvi j] ∧ (zSh S) ∧ (zRs R) ∧ (R 165 12 = some k) ∧ (zDy zT17 zF17 k R S) ∧ (302 ≤ k) ∧ (zBB k (-1) s I L) ∧ (bGd s) ∧ (r32 l ∧ r32 i ∧ r32 j) ∧ ∀ (v : Int) (I' : ZI), (v = if 0 ≤ bBarV 1 s l i j then 1 else 0) → (I' 165 0 = if 0 ≤ bBarV 1 s l i j then 0 else -(bBarV 1 s l i j)) → (zBB k (-1) (if bBarV 1 s l i j = 0 then bBar s (cxI (bW s) (bH s) (bD s) l i j).toNat else s) I' L) → (∀ c j : Nat, ¬ (c = k ∧ j = 0) → ¬ c = k + 5 → ¬ (c = 165 ∧ j = 0) → I' c j = I c j) → Q (some (zvi (v))) I' L R S
theorem sn_M_bar : ZSnd 3 21 2 T_M_bar := ZSnd.of (zT21_2 2) (by
  rintro args I L R S Q hz ⟨k, s, l, i, j, rfl, hS, hR, hg, hd, hk, hBB, hGd, hr, hQ⟩
  have hGz := bGd_z hGd
  refine And.intro rfl ?_
  refine And.intro (zA_165 hS) (zrdR (v := some k) hg ?_)
  refine And.intro (zA_165 hS) (zrdR (v := some k) hg ?_)
  refine And.intro (zDX hd 0 rfl) ⟨_, sn_G_cell.up (by decide), ?_⟩
  refine ⟨k, (-1), s, (l : Int), (i : Int), (j : Int), rfl, hd, (by first | exact (zBB_fr hBB (fun c j h => rfl) (fun c j h => rfl)) | (clear hQ; grind [xu])), (by clear hQ; grind [xu]), (by omega), ?_⟩
  intro v19o p19hv p19bhv2
  refine And.intro ⟨(by omega), (zRb rfl)⟩ ⟨fun h23 => ?_, fun h23 => ?_⟩
  · refine And.intro (zA_165 hS) (Exists.intro _ (And.intro (zinl_ok (zT21_48 1)) (And.intro rfl ?_)))
    refine And.intro (zA_165 hS) ⟨_, (zWi (zRb rfl)), ?_⟩
    refine And.intro (zRb rfl) (zbt rfl ?_)
    refine And.intro (Or.inl rfl) ?_
    refine And.intro (zRb rfl) (zbt rfl ?_)
    refine And.intro (zA_165 hS) (zrdR (v := some k) hg ?_)
    refine And.intro (zDX hd 0 rfl) ⟨_, sn_G_bar.up (by decide), ?_⟩
    refine ⟨k, s, (l : Int), (i : Int), (j : Int), rfl, hd, (by first | exact (zBB_fr hBB (fun c j h => (zxcj (by omega) rfl)) (fun c j h => rfl)) | (clear hQ; grind [xu])), (by first | exact hGd | (clear hQ; grind [xu])), (by omega), ?_⟩
    intro v47o I47o p47hth p47bhBB2 p47bbfr
    refine And.intro (by omega) ⟨fun h50 => ?_, fun h50 => ?_⟩
    · refine And.intro (zA_165 hS) (Exists.intro _ (And.intro (zinl_ok (zT21_48 1)) (And.intro rfl ?_)))
      refine And.intro (zA_165 hS) ⟨_, (zWi (zRb rfl)), ?_⟩
      refine And.intro (zRb rfl) (zbf rfl ?_)
      refine And.intro (Or.inr rfl) ?_
      refine And.intro (zRb rfl) (zbt rfl ?_)
      refine And.intro (Or.inl rfl) ?_
      refine hQ _ _ ?_ ?_ ?_ (fun c j h0 h1 h2 => (zxcj h2 ((p47bbfr c j (by omega) (by omega)).trans (zxcj h2 rfl))))
      · have e9 : bBarV 1 s l i j = if cxI (bW s) (bH s) (bD s) l i j = -1 then -2 else if bba s (cxI (bW s) (bH s) (bD s) l i j).toNat ≠ 0 ∨ bho s (cxI (bW s) (bH s) (bD s) l i j).toNat ≠ -1 then -4 else 0 := if_neg (by decide)
        have e1 : cxI (bW s) (bH s) (bD s) l i j = -1 → bBarV 1 s l i j = -2 := fun w => e9.trans (if_pos w)
        have e2 : cxI (bW s) (bH s) (bD s) l i j ≠ -1 → (bba s (cxI (bW s) (bH s) (bD s) l i j).toNat ≠ 0 ∨ bho s (cxI (bW s) (bH s) (bD s) l i j).toNat ≠ -1) → bBarV 1 s l i j = -4 := fun w w2 => e9.trans ((if_neg w).trans (if_pos w2))
        have e3 : cxI (bW s) (bH s) (bD s) l i j ≠ -1 → ¬ (bba s (cxI (bW s) (bH s) (bD s) l i j).toNat ≠ 0 ∨ bho s (cxI (bW s) (bH s) (bD s) l i j).toNat ≠ -1) → bBarV 1 s l i j = 0 := fun w w2 => e9.trans ((if_neg w).trans (if_neg w2))
        have e4 := p19hv
        first
        | (rw [e1 (by omega)]; rfl)
        | (rw [e2 (by omega) (by omega)]; rfl)
        | (rw [e3 (by omega) (by omega)]; rfl)
      · have e9 : bBarV 1 s l i j = if cxI (bW s) (bH s) (bD s) l i j = -1 then -2 else if bba s (cxI (bW s) (bH s) (bD s) l i j).toNat ≠ 0 ∨ bho s (cxI (bW s) (bH s) (bD s) l i j).toNat ≠ -1 then -4 else 0 := if_neg (by decide)
        have e1 : cxI (bW s) (bH s) (bD s) l i j = -1 → bBarV 1 s l i j = -2 := fun w => e9.trans (if_pos w)
        have e2 : cxI (bW s) (bH s) (bD s) l i j ≠ -1 → (bba s (cxI (bW s) (bH s) (bD s) l i j).toNat ≠ 0 ∨ bho s (cxI (bW s) (bH s) (bD s) l i j).toNat ≠ -1) → bBarV 1 s l i j = -4 := fun w w2 => e9.trans ((if_neg w).trans (if_pos w2))
        have e3 : cxI (bW s) (bH s) (bD s) l i j ≠ -1 → ¬ (bba s (cxI (bW s) (bH s) (bD s) l i j).toNat ≠ 0 ∨ bho s (cxI (bW s) (bH s) (bD s) l i j).toNat ≠ -1) → bBarV 1 s l i j = 0 := fun w w2 => e9.trans ((if_neg w).trans (if_neg w2))
        have e4 := p19hv
        first
        | (rw [e1 (by omega)]; exact zxe)
        | (rw [e2 (by omega) (by omega)]; exact zxe)
        | (rw [e3 (by omega) (by omega)]; exact zxe)
      · have e9 : bBarV 1 s l i j = if cxI (bW s) (bH s) (bD s) l i j = -1 then -2 else if bba s (cxI (bW s) (bH s) (bD s) l i j).toNat ≠ 0 ∨ bho s (cxI (bW s) (bH s) (bD s) l i j).toNat ≠ -1 then -4 else 0 := if_neg (by decide)
        have e1 : cxI (bW s) (bH s) (bD s) l i j = -1 → bBarV 1 s l i j = -2 := fun w => e9.trans (if_pos w)
        have e2 : cxI (bW s) (bH s) (bD s) l i j ≠ -1 → (bba s (cxI (bW s) (bH s) (bD s) l i j).toNat ≠ 0 ∨ bho s (cxI (bW s) (bH s) (bD s) l i j).toNat ≠ -1) → bBarV 1 s l i j = -4 := fun w w2 => e9.trans ((if_neg w).trans (if_pos w2))
        have e3 : cxI (bW s) (bH s) (bD s) l i j ≠ -1 → ¬ (bba s (cxI (bW s) (bH s) (bD s) l i j).toNat ≠ 0 ∨ bho s (cxI (bW s) (bH s) (bD s) l i j).toNat ≠ -1) → bBarV 1 s l i j = 0 := fun w w2 => e9.trans ((if_neg w).trans (if_neg w2))
        have e4 := p19hv
        first
        | (rw [e1 (by omega), if_neg (by decide)]; exact zBB_fr hBB (fun c j h => zxcj (by omega) rfl) (fun c j h => rfl))
        | (rw [e2 (by omega) (by omega), if_neg (by decide)]
           have w := p47bhBB2
           rw [if_neg (by omega)] at w
           exact zBB_fr w (fun c j h => zxcj (by omega) rfl) (fun c j h => rfl))
        | (rw [e3 (by omega) (by omega), if_pos rfl]
           have w := p47bhBB2
           rw [if_pos (by omega)] at w
           exact zBB_fr w (fun c j h => zxcj (by omega) rfl) (fun c j h => rfl))
    · refine And.intro (zA_165 hS) (Exists.intro _ (And.intro (zinl_ok (zT21_48 1)) (And.intro rfl ?_)))
      refine And.intro (zA_165 hS) ⟨_, (zWi (zRb rfl)), ?_⟩
      refine And.intro (zRb rfl) (zbt rfl ?_)
      refine And.intro (Or.inl rfl) ?_
      refine And.intro (zRb rfl) (zbf rfl ?_)
      refine And.intro (Or.inr rfl) ?_
      refine hQ _ _ ?_ ?_ ?_ (fun c j h0 h1 h2 => (zxcj h2 ((p47bbfr c j (by omega) (by omega)).trans (zxcj h2 rfl))))
      · have e9 : bBarV 1 s l i j = if cxI (bW s) (bH s) (bD s) l i j = -1 then -2 else if bba s (cxI (bW s) (bH s) (bD s) l i j).toNat ≠ 0 ∨ bho s (cxI (bW s) (bH s) (bD s) l i j).toNat ≠ -1 then -4 else 0 := if_neg (by decide)
        have e1 : cxI (bW s) (bH s) (bD s) l i j = -1 → bBarV 1 s l i j = -2 := fun w => e9.trans (if_pos w)
        have e2 : cxI (bW s) (bH s) (bD s) l i j ≠ -1 → (bba s (cxI (bW s) (bH s) (bD s) l i j).toNat ≠ 0 ∨ bho s (cxI (bW s) (bH s) (bD s) l i j).toNat ≠ -1) → bBarV 1 s l i j = -4 := fun w w2 => e9.trans ((if_neg w).trans (if_pos w2))
        have e3 : cxI (bW s) (bH s) (bD s) l i j ≠ -1 → ¬ (bba s (cxI (bW s) (bH s) (bD s) l i j).toNat ≠ 0 ∨ bho s (cxI (bW s) (bH s) (bD s) l i j).toNat ≠ -1) → bBarV 1 s l i j = 0 := fun w w2 => e9.trans ((if_neg w).trans (if_neg w2))
        have e4 := p19hv
        first
        | (rw [e1 (by omega)]; rfl)
        | (rw [e2 (by omega) (by omega)]; rfl)
        | (rw [e3 (by omega) (by omega)]; rfl)
      · have e9 : bBarV 1 s l i j = if cxI (bW s) (bH s) (bD s) l i j = -1 then -2 else if bba s (cxI (bW s) (bH s) (bD s) l i j).toNat ≠ 0 ∨ bho s (cxI (bW s) (bH s) (bD s) l i j).toNat ≠ -1 then -4 else 0 := if_neg (by decide)
        have e1 : cxI (bW s) (bH s) (bD s) l i j = -1 → bBarV 1 s l i j = -2 := fun w => e9.trans (if_pos w)
        have e2 : cxI (bW s) (bH s) (bD s) l i j ≠ -1 → (bba s (cxI (bW s) (bH s) (bD s) l i j).toNat ≠ 0 ∨ bho s (cxI (bW s) (bH s) (bD s) l i j).toNat ≠ -1) → bBarV 1 s l i j = -4 := fun w w2 => e9.trans ((if_neg w).trans (if_pos w2))
        have e3 : cxI (bW s) (bH s) (bD s) l i j ≠ -1 → ¬ (bba s (cxI (bW s) (bH s) (bD s) l i j).toNat ≠ 0 ∨ bho s (cxI (bW s) (bH s) (bD s) l i j).toNat ≠ -1) → bBarV 1 s l i j = 0 := fun w w2 => e9.trans ((if_neg w).trans (if_neg w2))
        have e4 := p19hv
        first
        | (rw [e1 (by omega)]; exact zxe)
        | (rw [e2 (by omega) (by omega)]; exact zxe)
        | (rw [e3 (by omega) (by omega)]; exact zxe)
      · have e9 : bBarV 1 s l i j = if cxI (bW s) (bH s) (bD s) l i j = -1 then -2 else if bba s (cxI (bW s) (bH s) (bD s) l i j).toNat ≠ 0 ∨ bho s (cxI (bW s) (bH s) (bD s) l i j).toNat ≠ -1 then -4 else 0 := if_neg (by decide)
        have e1 : cxI (bW s) (bH s) (bD s) l i j = -1 → bBarV 1 s l i j = -2 := fun w => e9.trans (if_pos w)
        have e2 : cxI (bW s) (bH s) (bD s) l i j ≠ -1 → (bba s (cxI (bW s) (bH s) (bD s) l i j).toNat ≠ 0 ∨ bho s (cxI (bW s) (bH s) (bD s) l i j).toNat ≠ -1) → bBarV 1 s l i j = -4 := fun w w2 => e9.trans ((if_neg w).trans (if_pos w2))
        have e3 : cxI (bW s) (bH s) (bD s) l i j ≠ -1 → ¬ (bba s (cxI (bW s) (bH s) (bD s) l i j).toNat ≠ 0 ∨ bho s (cxI (bW s) (bH s) (bD s) l i j).toNat ≠ -1) → bBarV 1 s l i j = 0 := fun w w2 => e9.trans ((if_neg w).trans (if_neg w2))
        have e4 := p19hv
        first
        | (rw [e1 (by omega), if_neg (by decide)]; exact zBB_fr hBB (fun c j h => zxcj (by omega) rfl) (fun c j h => rfl))
        | (rw [e2 (by omega) (by omega), if_neg (by decide)]
           have w := p47bhBB2
           rw [if_neg (by omega)] at w
           exact zBB_fr w (fun c j h => zxcj (by omega) rfl) (fun c j h => rfl))
        | (rw [e3 (by omega) (by omega), if_pos rfl]
           have w := p47bhBB2
           rw [if_pos (by omega)] at w
           exact zBB_fr w (fun c j h => zxcj (by omega) rfl) (fun c j h => rfl))
  · refine And.intro (zA_165 hS) (Exists.intro _ (And.intro (zinl_ok (zT21_48 1)) (And.intro rfl ?_)))
    refine And.intro (zA_165 hS) ⟨_, (zWi (zRb rfl)), ?_⟩
    refine And.intro (zRb rfl) (zbf rfl ?_)
    refine And.intro (Or.inr rfl) ?_
    refine And.intro (zRb rfl) (zbf rfl ?_)
    refine And.intro (Or.inl rfl) ?_
    refine hQ _ _ ?_ ?_ ?_ (fun c j h0 h1 h2 => (zxcj h2 rfl))
    · have e9 : bBarV 1 s l i j = if cxI (bW s) (bH s) (bD s) l i j = -1 then -2 else if bba s (cxI (bW s) (bH s) (bD s) l i j).toNat ≠ 0 ∨ bho s (cxI (bW s) (bH s) (bD s) l i j).toNat ≠ -1 then -4 else 0 := if_neg (by decide)
      have e1 : cxI (bW s) (bH s) (bD s) l i j = -1 → bBarV 1 s l i j = -2 := fun w => e9.trans (if_pos w)
      have e2 : cxI (bW s) (bH s) (bD s) l i j ≠ -1 → (bba s (cxI (bW s) (bH s) (bD s) l i j).toNat ≠ 0 ∨ bho s (cxI (bW s) (bH s) (bD s) l i j).toNat ≠ -1) → bBarV 1 s l i j = -4 := fun w w2 => e9.trans ((if_neg w).trans (if_pos w2))
      have e3 : cxI (bW s) (bH s) (bD s) l i j ≠ -1 → ¬ (bba s (cxI (bW s) (bH s) (bD s) l i j).toNat ≠ 0 ∨ bho s (cxI (bW s) (bH s) (bD s) l i j).toNat ≠ -1) → bBarV 1 s l i j = 0 := fun w w2 => e9.trans ((if_neg w).trans (if_neg w2))
      have e4 := p19hv
      first
      | (rw [e1 (by omega)]; rfl)
      | (rw [e2 (by omega) (by omega)]; rfl)
      | (rw [e3 (by omega) (by omega)]; rfl)
    · have e9 : bBarV 1 s l i j = if cxI (bW s) (bH s) (bD s) l i j = -1 then -2 else if bba s (cxI (bW s) (bH s) (bD s) l i j).toNat ≠ 0 ∨ bho s (cxI (bW s) (bH s) (bD s) l i j).toNat ≠ -1 then -4 else 0 := if_neg (by decide)
      have e1 : cxI (bW s) (bH s) (bD s) l i j = -1 → bBarV 1 s l i j = -2 := fun w => e9.trans (if_pos w)
      have e2 : cxI (bW s) (bH s) (bD s) l i j ≠ -1 → (bba s (cxI (bW s) (bH s) (bD s) l i j).toNat ≠ 0 ∨ bho s (cxI (bW s) (bH s) (bD s) l i j).toNat ≠ -1) → bBarV 1 s l i j = -4 := fun w w2 => e9.trans ((if_neg w).trans (if_pos w2))
      have e3 : cxI (bW s) (bH s) (bD s) l i j ≠ -1 → ¬ (bba s (cxI (bW s) (bH s) (bD s) l i j).toNat ≠ 0 ∨ bho s (cxI (bW s) (bH s) (bD s) l i j).toNat ≠ -1) → bBarV 1 s l i j = 0 := fun w w2 => e9.trans ((if_neg w).trans (if_neg w2))
      have e4 := p19hv
      first
      | (rw [e1 (by omega)]; exact zxe)
      | (rw [e2 (by omega) (by omega)]; exact zxe)
      | (rw [e3 (by omega) (by omega)]; exact zxe)
    · have e9 : bBarV 1 s l i j = if cxI (bW s) (bH s) (bD s) l i j = -1 then -2 else if bba s (cxI (bW s) (bH s) (bD s) l i j).toNat ≠ 0 ∨ bho s (cxI (bW s) (bH s) (bD s) l i j).toNat ≠ -1 then -4 else 0 := if_neg (by decide)
      have e1 : cxI (bW s) (bH s) (bD s) l i j = -1 → bBarV 1 s l i j = -2 := fun w => e9.trans (if_pos w)
      have e2 : cxI (bW s) (bH s) (bD s) l i j ≠ -1 → (bba s (cxI (bW s) (bH s) (bD s) l i j).toNat ≠ 0 ∨ bho s (cxI (bW s) (bH s) (bD s) l i j).toNat ≠ -1) → bBarV 1 s l i j = -4 := fun w w2 => e9.trans ((if_neg w).trans (if_pos w2))
      have e3 : cxI (bW s) (bH s) (bD s) l i j ≠ -1 → ¬ (bba s (cxI (bW s) (bH s) (bD s) l i j).toNat ≠ 0 ∨ bho s (cxI (bW s) (bH s) (bD s) l i j).toNat ≠ -1) → bBarV 1 s l i j = 0 := fun w w2 => e9.trans ((if_neg w).trans (if_neg w2))
      have e4 := p19hv
      first
      | (rw [e1 (by omega), if_neg (by decide)]; exact zBB_fr hBB (fun c j h => zxcj (by omega) rfl) (fun c j h => rfl))
      | (rw [e2 (by omega) (by omega), if_neg (by decide)]
         have w := p47bhBB2
         rw [if_neg (by omega)] at w
         exact zBB_fr w (fun c j h => zxcj (by omega) rfl) (fun c j h => rfl))
      | (rw [e3 (by omega) (by omega), if_pos rfl]
         have w := p47bhBB2
         rw [if_pos (by omega)] at w
         exact zBB_fr w (fun c j h => zxcj (by omega) rfl) (fun c j h => rfl)))
def T_M_cst : ZT := fun args I L R S Q => ∃ (k : Nat) (s : BdS) (l : Int) (a : Int) (y : Int) (n : Int), args = [zvr 165, zvi l, zvi a, zvi y, zvi n] ∧ (zSh S) ∧ (zRs R) ∧ (R 165 12 = some k) ∧ (zDy zT17 zF17 k R S) ∧ (302 ≤ k) ∧ (zBB k (-1) s I L) ∧ (bGd s) ∧ (r32 l ∧ r32 a ∧ r32 y ∧ r32 n) ∧ ∀ (v : Int) (I' : ZI), (v = if (0 ≤ l ∧ l < bD s ∧ 0 ≤ a ∧ a ≤ 50 ∧ 0 ≤ y ∧ y ≤ 50 ∧ 0 ≤ n ∧ n ≤ 50) then 1 else 0) → (I' 165 0 = if (0 ≤ l ∧ l < bD s ∧ 0 ≤ a ∧ a ≤ 50 ∧ 0 ≤ y ∧ y ≤ 50 ∧ 0 ≤ n ∧ n ≤ 50) then 0 else 2) → (zBB k (-1) (if (0 ≤ l ∧ l < bD s ∧ 0 ≤ a ∧ a ≤ 50 ∧ 0 ≤ y ∧ y ≤ 50 ∧ 0 ≤ n ∧ n ≤ 50) then bCst s l.toNat a.toNat y.toNat n.toNat else s) I' L) → (∀ c j : Nat, ¬ (c = k ∧ j = 0) → ¬ c = k + 7 → ¬ c = k + 8 → ¬ c = k + 9 → ¬ (c = 165 ∧ j = 0) → I' c j = I c j) → Q (some (zvi (v))) I' L R S
theorem sn_M_cst : ZSnd 3 21 7 T_M_cst := ZSnd.of (zT21_7 2) (by
  rintro args I L R S Q hz ⟨k, s, l, a, y, n, rfl, hS, hR, hg, hd, hk, hBB, hGd, hr, hQ⟩
  refine And.intro rfl ?_
  refine And.intro (zA_165 hS) (zrdR (v := some k) hg ?_)
  refine And.intro (zA_165 hS) (Exists.intro _ (And.intro (zinl_ok (zT21_48 1)) (And.intro rfl ?_)))
  refine And.intro (zA_165 hS) ⟨_, (zWi (zRb rfl)), ?_⟩
  refine And.intro (zRb rfl) (zbt rfl ?_)
  refine And.intro (Or.inl rfl) ?_
  refine And.intro (zRb rfl) (zbt rfl ?_)
  refine And.intro (zA_165 hS) (zrdR (v := some k) hg ?_)
  refine And.intro (zDX hd 0 rfl) ⟨_, sn_G_cst.up (by decide), ?_⟩
  refine ⟨k, s, (l : Int), (a : Int), (y : Int), (n : Int), rfl, hd, (by first | exact (zBB_fr hBB (fun c j h => (zxcj (by omega) rfl)) (fun c j h => rfl)) | (clear hQ; grind [xu])), (by first | exact hGd | (clear hQ; grind [xu])), (by omega), ?_⟩
  intro v30o I30o p30hth p30bhBB2 p30bbfr
  refine And.intro (zA_165 hS) (zrdR (v := some k) hg ?_)
  refine And.intro (zDX hd 0 rfl) (Exists.intro _ (And.intro (zinl_ok (zT17_32 1)) (And.intro rfl ?_)))
  refine And.intro (zDX hd 0 rfl) (fun v1_40 e1_40 r1_40 => ?_)
  refine And.intro r1_40 ⟨fun h43 => ?_, fun h43 => ?_⟩
  · refine And.intro (zA_165 hS) (Exists.intro _ (And.intro (zinl_ok (zT21_48 1)) (And.intro rfl ?_)))
    refine And.intro (zA_165 hS) ⟨_, (zWi (zRb rfl)), ?_⟩
    refine And.intro (zRb rfl) (zbf rfl ?_)
    refine And.intro (Or.inr rfl) ?_
    refine And.intro (zRb rfl) (zbt rfl ?_)
    refine And.intro (Or.inl rfl) ?_
    refine hQ _ _ ?_ ?_ (zBB_fr p30bhBB2 (fun c j h => zxcj (by omega) rfl) (fun c j h => rfl)) (fun c j h0 h1 h2 h3 h4 => (zxcj h4 ((p30bbfr c j (by omega) (by omega) (by omega) (by omega)).trans (zxcj h4 rfl))))
    · first
      | (rw [if_pos (by omega)]
         try exact zxe)
      | (rw [if_neg (by omega)]
         try exact zxe)
    · first
      | (rw [if_pos (by omega)]
         try exact zxe)
      | (rw [if_neg (by omega)]
         try exact zxe)
  · refine And.intro (zA_165 hS) (Exists.intro _ (And.intro (zinl_ok (zT21_48 1)) (And.intro rfl ?_)))
    refine And.intro (zA_165 hS) ⟨_, (zWi (zRb rfl)), ?_⟩
    refine And.intro (zRb rfl) (zbt rfl ?_)
    refine And.intro (Or.inl rfl) ?_
    refine And.intro (zRb rfl) (zbf rfl ?_)
    refine And.intro (Or.inr rfl) ?_
    refine hQ _ _ ?_ ?_ (zBB_fr p30bhBB2 (fun c j h => zxcj (by omega) rfl) (fun c j h => rfl)) (fun c j h0 h1 h2 h3 h4 => (zxcj h4 ((p30bbfr c j (by omega) (by omega) (by omega) (by omega)).trans (zxcj h4 rfl))))
    · first
      | (rw [if_pos (by omega)]
         try exact zxe)
      | (rw [if_neg (by omega)]
         try exact zxe)
    · first
      | (rw [if_pos (by omega)]
         try exact zxe)
      | (rw [if_neg (by omega)]
         try exact zxe))
