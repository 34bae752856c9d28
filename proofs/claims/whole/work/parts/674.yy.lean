/-! yy -/
def T_Z_cutN : ZT := fun args I L R S Q => args = [zvr 40] ∧ (zSh S) ∧ (zRs R) ∧ (I 82 0 = -1) ∧ ∀ (I' : ZI), (I' 40 3 = 3) → (∀ c j : Nat, ¬ (c = 40 ∧ j = 3) → I' c j = I c j) → Q (some (zvi (-1))) I' L R S
theorem sn_Z_cutN : ZSnd 8 11 11 T_Z_cutN := ZSnd.of (zT11_11 7) (by
  rintro args I L R S Q hz ⟨rfl, hS, hR, h0, hQ⟩
  refine And.intro rfl ?_
  refine And.intro (zA_40 hS) (zrdR (v := some 82) (zR_40_9 hR) ?_)
  refine And.intro (zA_82 hS) (zrd (v := (-1)) h0 ?_)
  refine And.intro ⟨(zRb rfl), (zRb rfl)⟩ (zbf rfl ?_)
  refine And.intro (zA_40 hS) (Exists.intro _ (And.intro (zinl_ok (zT11_1 6)) (And.intro rfl ?_)))
  refine And.intro (zRb rfl) (zbf rfl ?_)
  refine And.intro (zA_40 hS) ⟨_, (zWi (zRb rfl)), ?_⟩
  refine And.intro (zRb rfl) (zbf rfl ?_)
  refine hQ _ (by first | exact zxe | exact zxe.trans (by omega)) (fun c j h0 => (zxcj h0 rfl)))
def T_Z_cutF : ZT := fun args I L R S Q => ∃ (b : Nat), args = [zvr 40] ∧ (zSh S) ∧ (zRs R) ∧ (I 82 0 = b - 1) ∧ (1 ≤ b ∧ b ≤ 7) ∧ (I 40 14 = 10) ∧ ∀ (I' : ZI), (I' 40 3 = 1) → (∀ c j : Nat, ¬ (c = 40 ∧ j = 3) → I' c j = I c j) → Q (some (zvi (-1))) I' L R S
theorem sn_Z_cutF : ZSnd 8 11 11 T_Z_cutF := ZSnd.of (zT11_11 7) (by
  rintro args I L R S Q hz ⟨b, rfl, hS, hR, h0, hb1, hm, hQ⟩
  refine And.intro rfl ?_
  refine And.intro (zA_40 hS) (zrdR (v := some 82) (zR_40_9 hR) ?_)
  refine And.intro (zA_82 hS) (zrd (v := (b - 1)) h0 ?_)
  refine And.intro ⟨(by omega), (zRb rfl)⟩ ⟨fun h8 => ?_, (fun h8 => False.elim (by omega))⟩
  refine And.intro (zA_40 hS) (zrd (v := 10) hm ?_)
  refine And.intro ⟨(zRb rfl), (zRb rfl)⟩ (zbf rfl ?_)
  refine And.intro (zA_40 hS) (Exists.intro _ (And.intro (zinl_ok (zT11_1 6)) (And.intro rfl ?_)))
  refine And.intro (zRb rfl) (zbf rfl ?_)
  refine And.intro (zA_40 hS) ⟨_, (zWi (zRb rfl)), ?_⟩
  refine And.intro (zRb rfl) (zbf rfl ?_)
  refine hQ _ (by first | exact zxe | exact zxe.trans (by omega)) (fun c j h0 => (zxcj h0 rfl)))
def T_Z_cutS : ZT := fun args I L R S Q => ∃ (k : Nat) (b : Nat) (s : BdS) (nr : Nat) (rf : Nat → Nat → Int) (m : Nat), args = [zvr 40] ∧ (zSh S) ∧ (zRs R) ∧ (R 40 13 = some k) ∧ (zDy zT1 zF1 k R S) ∧ (k = 106 ∨ k = 118) ∧ (zSt I L) ∧ (zBA b s I L) ∧ (bGd s) ∧ (zRT 104 30 nr rf I) ∧ (cuRg nr rf) ∧ (I (k + 1) 1 = 60) ∧ (I (k + 5) 1 = 40) ∧ (1 ≤ b ∧ b ≤ 7) ∧ (I 40 14 = m) ∧ (m ≤ 9) ∧ (60 < (cuS s).length) ∧ ∀ (I' : ZI), (I' 40 3 = 1) → (∀ c j : Nat, ¬ (c = k ∧ j = 0) → ¬ (c = k ∧ j = 2) → ¬ (c = k ∧ j = 3) → ¬ (c = k ∧ j = 4) → ¬ (c = k ∧ j = 6) → ¬ (c = k ∧ j = 9) → ¬ (c = k ∧ j = 11) → ¬ (c = k ∧ j = 13) → ¬ (c = k + 1 ∧ j = 2) → ¬ c = k + 2 → ¬ c = k + 3 → ¬ c = k + 4 → ¬ (c = k + 5 ∧ j = 2) → ¬ c = k + 6 → ¬ c = k + 7 → ¬ c = k + 8 → ¬ c = k + 9 → ¬ c = k + 10 → ¬ (c = 40 ∧ j = 3) → I' c j = I c j) → Q (some (zvi (-1))) I' L R S
theorem sn_Z_cutS : ZSnd 8 11 11 T_Z_cutS := ZSnd.of (zT11_11 7) (by
  rintro args I L R S Q hz ⟨k, b, s, nr, rf, m, rfl, hS, hR, hl, hD, hk, hT, hBA, hG, hRT, hrg, h60, h40, hb7, hm, hm9, h6, hQ⟩
  have hk106 : 106 ≤ k := by omega
  have hk118 : k ≤ 118 := by omega
  have hb0 := hBA.1.1
  refine And.intro rfl ?_
  refine And.intro (zA_40 hS) (zrdR (v := some 82) (zR_40_9 hR) ?_)
  refine And.intro (zA_82 hS) (zrd (v := (b - 1)) hb0 ?_)
  refine And.intro ⟨(by omega), (zRb rfl)⟩ ⟨fun h8 => ?_, (fun h8 => False.elim (by omega))⟩
  refine And.intro (zA_40 hS) (zrd (v := m) hm ?_)
  refine And.intro ⟨(by omega), (zRb rfl)⟩ ⟨fun h24 => ?_, (fun h24 => False.elim (by omega))⟩
  refine And.intro (zA_40 hS) (zrdR (v := some k) hl ?_)
  refine And.intro (zA_40 hS) (zrdR (v := some 82) (zR_40_9 hR) ?_)
  refine And.intro (zA_40 hS) (zrdR (v := some 104) (zR_40_11 hR) ?_)
  refine And.intro (zDX hD 0 rfl) ⟨_, sn_U_mak.up (by decide), ?_⟩
  refine ⟨k, b, s, nr, rf, rfl, hS, hR, (zStf hT (fun c j h1 h2 => ⟨rfl, rfl⟩)), hD, (by first | exact hk | (clear hQ; grind [xu])), (by first | exact (zBA_fr hBA (fun c j h => rfl) (fun c j h => rfl)) | (clear hQ; grind [xu])), (by first | exact hG | (clear hQ; grind [xu])), (by first | exact (zRT_fr hRT (fun c j h => rfl)) | (clear hQ; grind [xu])), (by first | exact hrg | (clear hQ; grind [xu])), h60, h40, (by omega), ?_⟩
  intro I45o p45hm p45bfr
  have g45 : I45o k 2 = 1 := (by rcases p45hm with z | z; exact z.2; exfalso; omega)
  refine And.intro (zA_40 hS) (zrdR (v := some k) hl ?_)
  refine And.intro (zDX hD 0 rfl) (zrd (v := 1) g45 ?_)
  refine And.intro (zRb rfl) (zbf rfl ?_)
  refine And.intro (zA_40 hS) (Exists.intro _ (And.intro (zinl_ok (zT11_1 6)) (And.intro rfl ?_)))
  refine And.intro (zRb rfl) (zbf rfl ?_)
  refine And.intro (zA_40 hS) ⟨_, (zWi (zRb rfl)), ?_⟩
  refine And.intro (zRb rfl) (zbf rfl ?_)
  refine hQ _ (by first | exact zxe | exact zxe.trans (by omega)) (fun c j h0 h1 h2 h3 h4 h5 h6 h7 h8 h9 h10 h11 h12 h13 h14 h15 h16 h17 h18 => (zxcj h18 ((p45bfr c j h0 h1 h2 h3 h4 h5 h6 h7 h8 h9 h10 h11 h12 h13 h14 h15 h16 h17).trans rfl))))
def T_Z_cut : ZT := fun args I L R S Q => ∃ (k : Nat) (b : Nat) (s : BdS) (nr : Nat) (rf : Nat → Nat → Int) (m : Nat) (u : Nat), args = [zvr 40] ∧ (zSh S) ∧ (zRs R) ∧ (R 40 13 = some k) ∧ (zDy zT1 zF1 k R S) ∧ (k = 106 ∨ k = 118) ∧ (zSt I L) ∧ (zBA b s I L) ∧ (bGd s) ∧ (zRT 104 30 nr rf I) ∧ (cuRg nr rf) ∧ (I (k + 1) 1 = 60) ∧ (I (k + 5) 1 = 40) ∧ (1 ≤ b ∧ b ≤ 7) ∧ (I 40 14 = m) ∧ (m ≤ 9) ∧ ((cuS s).length ≤ 60) ∧ (R 40 12 = some u) ∧ ∀ (v : Int) (I' : ZI) (R' : ZR), (v = (cuS s).length) → (I' 40 3 = 0) → (I' 40 14 = m + 1) → (zUC k (cuS s) (bnp s) nr rf ((b : Int) - 1) (if bOpn s (bnn s) = 0 then 1 else 0) I') → (R' 40 12 = some k) → (R' 40 13 = some u) → (zRs R') → (∀ c j : Nat, ¬ (c = k ∧ j = 0) → ¬ (c = k ∧ j = 2) → ¬ (c = k ∧ j = 3) → ¬ (c = k ∧ j = 4) → ¬ (c = k ∧ j = 6) → ¬ (c = k ∧ j = 9) → ¬ (c = k ∧ j = 11) → ¬ (c = k ∧ j = 13) → ¬ (c = k + 1 ∧ j = 2) → ¬ c = k + 2 → ¬ c = k + 3 → ¬ c = k + 4 → ¬ (c = k + 5 ∧ j = 2) → ¬ c = k + 6 → ¬ c = k + 7 → ¬ c = k + 8 → ¬ c = k + 9 → ¬ c = k + 10 → ¬ (c = 40 ∧ j = 3) → ¬ (c = 40 ∧ j = 14) → I' c j = I c j) → (∀ c j : Nat, ¬ (c = 40 ∧ j = 12) → ¬ (c = 40 ∧ j = 13) → R' c j = R c j) → Q (some (zvi (v))) I' L R' S
theorem sn_Z_cut : ZSnd 8 11 11 T_Z_cut := ZSnd.of (zT11_11 7) (by
  rintro args I L R S Q hz ⟨k, b, s, nr, rf, m, u, rfl, hS, hR, hl, hD, hk, hT, hBA, hG, hRT, hrg, h60, h40, hb7, hm, hm9, h6, hl2, hQ⟩
  have hk106 : 106 ≤ k := by omega
  have hk118 : k ≤ 118 := by omega
  have hb0 := hBA.1.1
  refine And.intro rfl ?_
  refine And.intro (zA_40 hS) (zrdR (v := some 82) (zR_40_9 hR) ?_)
  refine And.intro (zA_82 hS) (zrd (v := (b - 1)) hb0 ?_)
  refine And.intro ⟨(by omega), (zRb rfl)⟩ ⟨fun h8 => ?_, (fun h8 => False.elim (by omega))⟩
  refine And.intro (zA_40 hS) (zrd (v := m) hm ?_)
  refine And.intro ⟨(by omega), (zRb rfl)⟩ ⟨fun h24 => ?_, (fun h24 => False.elim (by omega))⟩
  refine And.intro (zA_40 hS) (zrdR (v := some k) hl ?_)
  refine And.intro (zA_40 hS) (zrdR (v := some 82) (zR_40_9 hR) ?_)
  refine And.intro (zA_40 hS) (zrdR (v := some 104) (zR_40_11 hR) ?_)
  refine And.intro (zDX hD 0 rfl) ⟨_, sn_U_mak.up (by decide), ?_⟩
  refine ⟨k, b, s, nr, rf, rfl, hS, hR, (zStf hT (fun c j h1 h2 => ⟨rfl, rfl⟩)), hD, (by first | exact hk | (clear hQ; grind [xu])), (by first | exact (zBA_fr hBA (fun c j h => rfl) (fun c j h => rfl)) | (clear hQ; grind [xu])), (by first | exact hG | (clear hQ; grind [xu])), (by first | exact (zRT_fr hRT (fun c j h => rfl)) | (clear hQ; grind [xu])), (by first | exact hrg | (clear hQ; grind [xu])), h60, h40, (by omega), ?_⟩
  intro I45o p45hm p45bfr
  have g45 : I45o k 2 = 0 := (by rcases p45hm with z | z; (exfalso; omega); exact z.2.1)
  have g45b : zUC k (cuS s) (bnp s) nr rf ((b : Int) - 1) (if bOpn s (bnn s) = 0 then 1 else 0) I45o := (by rcases p45hm with z | z; (exfalso; omega); exact z.2.2)
  have g45bb : I45o (k + 1) 2 = (cuS s).length := (zUC_c g45b)
  refine And.intro (zA_40 hS) (zrdR (v := some k) hl ?_)
  refine And.intro (zDX hD 0 rfl) (zrd (v := 0) g45 ?_)
  refine And.intro (zRb rfl) (zbt rfl ?_)
  refine And.intro (zA_40 hS) (zrd (v := m) ((p45bfr 40 14 (by omega) (by omega) (by omega) (by omega) (by omega) (by omega) (by omega) (by omega) (by omega) (by omega) (by omega) (by omega) (by omega) (by omega) (by omega) (by omega) (by omega) (by omega)).trans hm) ?_)
  refine And.intro (zA_40 hS) ⟨_, (zWi (by omega)), ?_⟩
  refine And.intro (zA_40 hS) (zrdR (v := some u) hl2 ?_)
  refine And.intro (zA_40 hS) (zrdR (v := some k) hl ?_)
  refine And.intro (zA_40 hS) ?_
  have hR84 : zRs (xu R 40 12 (some k)) := zRs_xu hR (by decide +kernel)
  refine And.intro (zA_40 hS) ?_
  have hR89 : zRs (xu (xu R 40 12 (some k)) 40 13 (some u)) := zRs_xu hR84 (by decide +kernel)
  refine And.intro (zA_40 hS) (zrdR (v := some k) rfl ?_)
  refine And.intro (zDX hD 0 rfl) (zrdR (v := some (k + 1)) (zxu (by omega) (zxu (by omega) (zDR hD 0 rfl))) ?_)
  refine And.intro (zDX hD 1 rfl) (zrd (v := ((cuS s).length)) (zxu (by omega) g45bb) ?_)
  refine And.intro (zA_40 hS) (Exists.intro _ (And.intro (zinl_ok (zT11_1 6)) (And.intro rfl ?_)))
  refine And.intro (by omega) ⟨fun h2_103 => ?_, fun h2_103 => ?_⟩
  · refine And.intro (zA_40 hS) ⟨_, (zWi (zRb rfl)), ?_⟩
    refine And.intro (by omega) ⟨fun h15_103 => ?_, (fun h15_103 => False.elim (by omega))⟩
    refine hQ _ _ _ (by clear hQ; grind [xu]) (by first | exact zxe | exact zxe.trans (by omega)) (zxs (by decide) zxe) (zUC_fr g45b (fun c j h => zxu (by omega) (zxu (by omega) rfl))) (by first | exact zxe | exact zxs (by decide) zxe) (by first | exact zxe | exact zxs (by decide) zxe) hR89 (fun c j h0 h1 h2 h3 h4 h5 h6 h7 h8 h9 h10 h11 h12 h13 h14 h15 h16 h17 h18 h19 => (zxcj h18 (zxcj h19 ((p45bfr c j h0 h1 h2 h3 h4 h5 h6 h7 h8 h9 h10 h11 h12 h13 h14 h15 h16 h17).trans rfl)))) (fun c j h0 h1 => (zxcj h1 (zxcj h0 rfl)))
  · refine And.intro (zA_40 hS) ⟨_, (zWi (by omega)), ?_⟩
    refine And.intro (by omega) ⟨(fun h15_103 => False.elim (by omega)), fun h15_103 => ?_⟩
    refine hQ _ _ _ (by clear hQ; grind [xu]) (by first | exact zxe | exact zxe.trans (by omega)) (zxs (by decide) zxe) (zUC_fr g45b (fun c j h => zxu (by omega) (zxu (by omega) rfl))) (by first | exact zxe | exact zxs (by decide) zxe) (by first | exact zxe | exact zxs (by decide) zxe) hR89 (fun c j h0 h1 h2 h3 h4 h5 h6 h7 h8 h9 h10 h11 h12 h13 h14 h15 h16 h17 h18 h19 => (zxcj h18 (zxcj h19 ((p45bfr c j h0 h1 h2 h3 h4 h5 h6 h7 h8 h9 h10 h11 h12 h13 h14 h15 h16 h17).trans rfl)))) (fun c j h0 h1 => (zxcj h1 (zxcj h0 rfl))))
