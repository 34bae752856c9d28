/-! xy -/
def T_X_rto : ZT := fun args I L R S Q => ∃ (k : Nat) (t : List Int) (p : Nat), args = [zvr k] ∧ (zSh S) ∧ (zRs R) ∧ (zDy zT16 zF16 k R S) ∧ (zTd k t I) ∧ (I k 21 = p) ∧ (t.length ≤ 800) ∧ (I k 23 = -1) ∧ (I k 24 = 1) ∧ (I (k + 1) 1 = 0) ∧ (dAt t (p + 1) (dNu 0)) ∧ ((p + 1 + (dNu 0).length) < t.length ∧ wAt t (p + 1 + (dNu 0).length) = 67) ∧ (dAt t ((p + 1 + (dNu 0).length) + 1) (dNu 300)) ∧ (((p + 1 + (dNu 0).length) + 1 + (dNu 300).length) < t.length ∧ wAt t ((p + 1 + (dNu 0).length) + 1 + (dNu 300).length) = 80) ∧ (((p + 1 + (dNu 0).length) + 1 + (dNu 300).length) + 1 < t.length ∧ wAt t (((p + 1 + (dNu 0).length) + 1 + (dNu 300).length) + 1) = 10) ∧ ∀ (I' : ZI) (L' : ZI), (I' k 21 = (((p + 1 + (dNu 0).length) + 1 + (dNu 300).length) + 2 : Nat)) → (I' k 24 = 1 ∧ I' (k + 1) 1 = 1 ∧ L' (k + 2) 10 = 300 ∧ I' (k + 3) 10 = 1) → (∀ c j : Nat, ¬ (c = k ∧ j = 21) → ¬ (c = k ∧ j = 24) → ¬ (c = k + 1 ∧ j = 1) → ¬ (c = k + 3 ∧ j = 10) → I' c j = I c j) → (∀ c j : Nat, ¬ (c = k + 2 ∧ j = 10) → L' c j = L c j) → Q none I' L' R S
theorem sn_X_rto : ZSnd 4 16 27 T_X_rto := ZSnd.of (zT16_27 3) (by
  rintro args I L R S Q hz ⟨k, t, p, rfl, hS, hR, hd, hTd, hp, ht8, hw, hme, h1, hA1, hc1, hA2, hc2, hc3, hQ⟩
  have hk5 := hd.1
  obtain ⟨ht0, htt⟩ := id hTd
  have hd1 := dNu_1 (v := 0) (by omega)
  have hd2 := dNu_1 (v := 300) (by omega)
  refine And.intro rfl ?_
  refine And.intro (zDX hd 0 rfl) (zrd (v := p) hp ?_)
  refine And.intro (zDX hd 0 rfl) ⟨_, (zWi (by omega)), ?_⟩
  refine And.intro (zDX hd 0 rfl) ⟨_, sn_X_who.up (by decide), ?_⟩
  refine ⟨_, t, (p + 1), 0, rfl, hS, hR, hd, (by first | exact (zTd_fr hTd (fun c j h => (zxcj (by omega) rfl))) | (clear hQ; grind [xu])), (zxe.trans (by omega)), (by omega), (Eq.trans (b := ((-1) : Int)) (zxs (by decide) hw) (by omega)), (by omega), hA1, (by clear hQ; grind [xu]), (fun q => by omega), ?_⟩
  intro v11o I11o p11hv p11bhp2 p11bbfr
  refine And.intro (zDX hd 0 rfl) ⟨_, sn_X_exp.up (by decide), ?_⟩
  refine ⟨_, t, (p + 1 + (dNu 0).length), (67 : Int), rfl, hS, hR, hd, (by first | exact (zTd_fr hTd (fun c j h => ((p11bbfr c j (by omega)).trans (zxcj (by omega) rfl)))) | (clear hQ; grind [xu])), p11bhp2, (by omega), (Eq.trans (b := ((-1) : Int)) ((p11bbfr k 23 (by omega)).trans (zxs (by decide) hw)) (by omega)), (by omega), (by omega), ?_⟩
  intro I18o p18hp2 p18bfr
  refine And.intro (zDX hd 0 rfl) ⟨_, sn_X_who.up (by decide), ?_⟩
  refine ⟨_, t, ((p + 1 + (dNu 0).length) + 1), 300, rfl, hS, hR, hd, (by first | exact (zTd_fr hTd (fun c j h => ((p18bfr c j (by omega)).trans ((p11bbfr c j (by omega)).trans (zxcj (by omega) rfl))))) | (clear hQ; grind [xu])), (p18hp2.trans (by omega)), (by omega), (Eq.trans (b := ((-1) : Int)) ((p18bfr k 23 (by omega)).trans ((p11bbfr k 23 (by omega)).trans (zxs (by decide) hw))) (by omega)), (by omega), hA2, (by clear hQ; grind [xu]), (fun q => by omega), ?_⟩
  intro v22o I22o p22hv p22bhp2 p22bbfr
  refine And.intro (zDX hd 0 rfl) ⟨_, sn_X_now.up (by decide), ?_⟩
  refine ⟨_, t, ((p + 1 + (dNu 0).length) + 1 + (dNu 300).length), rfl, hS, hR, hd, (by first | exact (zTd_fr hTd (fun c j h => ((p22bbfr c j (by omega)).trans ((p18bfr c j (by omega)).trans ((p11bbfr c j (by omega)).trans (zxcj (by omega) rfl)))))) | (clear hQ; grind [xu])), p22bhp2, (by omega), (by omega), ?_⟩
  intro v27o p27hv p27bhv2
  refine And.intro ⟨(by omega), (zRb rfl)⟩ ⟨fun h32 => ?_, fun h32 => ?_⟩
  · exact False.elim (by omega)
  · refine And.intro (zDX hd 0 rfl) (zrd (v := (-1)) ((p22bbfr k 23 (by omega)).trans ((p18bfr k 23 (by omega)).trans ((p11bbfr k 23 (by omega)).trans (zxs (by decide) hw)))) ?_)
    refine And.intro ⟨(zRb rfl), (zRb rfl)⟩ (zbf rfl ?_)
    refine And.intro (zRb rfl) (zbt rfl ?_)
    refine And.intro (zDX hd 0 rfl) (zrd (v := ((((p + 1 + (dNu 0).length) + 1) + (dNu 300).length : Nat))) p22bhp2 ?_)
    refine And.intro (zDX hd 0 rfl) ⟨_, (zWi (by omega)), ?_⟩
    refine And.intro (zDX hd 0 rfl) (zrdR (v := some (k + 1)) (zDR hd 0 rfl) ?_)
    refine And.intro (zDP hd 1 rfl rfl (by omega) (by omega)) (zrd (v := 0) (zxu (by omega) ((p22bbfr (k + 1) 1 (by omega)).trans ((p18bfr (k + 1) 1 (by omega)).trans ((p11bbfr (k + 1) 1 (by omega)).trans (zxu (by omega) h1))))) ?_)
    refine And.intro (zRb rfl) ?_
    refine ⟨_, _, ⟨zW6i (by omega), zW6i (zRL rfl)⟩, fun z102 c102 => ?_⟩
    refine And.intro c102.2.2 ⟨(fun h103 => False.elim (by omega)), fun h103 => ?_⟩
    refine ⟨_, _, ⟨zW6i (by omega), zW6i (zRL rfl)⟩, fun z110 c110 => ?_⟩
    refine And.intro c110.2.2 ⟨(fun h111 => False.elim (by omega)), fun h111 => ?_⟩
    refine Exists.intro _ (And.intro (zinl_ok (zT16_10 2)) (And.intro rfl ?_))
    refine ⟨_, _, ⟨zW6i (by omega), zW6i (zRL rfl)⟩, fun z2_115 c2_115 => ?_⟩
    refine And.intro c2_115.2.2 ⟨(fun h3_115 => False.elim (by omega)), fun h3_115 => ?_⟩
    refine ⟨_, _, ⟨zW6i (by omega), zW6i (zRL rfl)⟩, fun z10_115 c10_115 => ?_⟩
    refine And.intro c10_115.2.2 ⟨(fun h11_115 => False.elim (by omega)), fun h11_115 => ?_⟩
    refine And.intro (Or.inr rfl) ?_
    refine And.intro (zRb rfl) (zbf rfl ?_)
    refine And.intro (zDX hd 0 rfl) (Exists.intro _ (And.intro (zinl_ok (zT16_15 2)) (And.intro rfl ?_)))
    refine And.intro (zDX hd 0 rfl) (zrd (v := 1) (zxs (by decide) ((p22bbfr k 24 (by omega)).trans ((p18bfr k 24 (by omega)).trans ((p11bbfr k 24 (by omega)).trans (zxs (by decide) hme))))) ?_)
    refine And.intro (zRb rfl) (zbf rfl ?_)
    refine And.intro (zRb rfl) (zbf rfl ?_)
    refine And.intro ⟨(zDX hd 0 rfl), (Or.inr rfl)⟩ ?_
    refine And.intro (zDX hd 0 rfl) ⟨_, sn_X_eol.up (by decide), ?_⟩
    refine ⟨_, t, (((p + 1 + (dNu 0).length) + 1 + (dNu 300).length) + 1), rfl, hS, hR, hd, (by first | exact (zTd_fr hTd (fun c j h => (zxcj (by omega) (zxcj (by omega) ((p22bbfr c j (by omega)).trans ((p18bfr c j (by omega)).trans ((p11bbfr c j (by omega)).trans (zxcj (by omega) rfl)))))))) | (clear hQ; grind [xu])), (zxs (by decide) (zxe.trans (by omega))), (by omega), (Eq.trans (b := ((-1) : Int)) (zxs (by decide) (zxs (by decide) ((p22bbfr k 23 (by omega)).trans ((p18bfr k 23 (by omega)).trans ((p11bbfr k 23 (by omega)).trans (zxs (by decide) hw)))))) (by omega)), zxe, (by omega), ?_⟩
    intro v130o I130o p130hv p130bhp2 p130bbfr
    refine And.intro (by omega) ⟨(fun h133 => False.elim (by omega)), fun h133 => ?_⟩
    refine And.intro (zDX hd 0 rfl) (Exists.intro _ (And.intro (zinl_ok (zT16_1 2)) (And.intro rfl ?_)))
    refine And.intro (zDX hd 0 rfl) (zrdR (v := some (k + 2)) (zDR hd 1 rfl) ?_)
    refine And.intro (zDX hd 0 rfl) (zrdR (v := some (k + 1)) (zDR hd 0 rfl) ?_)
    refine And.intro (zDP hd 1 rfl rfl (by omega) (by omega)) (zrd (v := 0) ((p130bbfr (k + 1) 1 (by omega)).trans (zxu (by omega) (zxu (by omega) ((p22bbfr (k + 1) 1 (by omega)).trans ((p18bfr (k + 1) 1 (by omega)).trans ((p11bbfr (k + 1) 1 (by omega)).trans (zxu (by omega) h1))))))) ?_)
    refine And.intro ⟨(by show 40 ≤ _; omega), (zDP hd 2 rfl rfl (by omega) (by omega))⟩ ⟨_, zW6i (by omega), ?_⟩
    refine And.intro (zDX hd 0 rfl) (zrdR (v := some (k + 3)) (zDR hd 2 rfl) ?_)
    refine And.intro (zDX hd 0 rfl) (zrdR (v := some (k + 1)) (zDR hd 0 rfl) ?_)
    refine And.intro (zDP hd 1 rfl rfl (by omega) (by omega)) (zrd (v := 0) ((p130bbfr (k + 1) 1 (by omega)).trans (zxu (by omega) (zxu (by omega) ((p22bbfr (k + 1) 1 (by omega)).trans ((p18bfr (k + 1) 1 (by omega)).trans ((p11bbfr (k + 1) 1 (by omega)).trans (zxu (by omega) h1))))))) ?_)
    refine And.intro ⟨(by show 40 ≤ _; omega), Or.inr ⟨(zDP hd 3 rfl rfl (by omega) (by omega)), (Or.inr rfl)⟩⟩ ?_
    refine And.intro (zDX hd 0 rfl) (zrdR (v := some (k + 1)) (zDR hd 0 rfl) ?_)
    refine And.intro (zDP hd 1 rfl rfl (by omega) (by omega)) (zrd (v := 0) (zxu (by omega) ((p130bbfr (k + 1) 1 (by omega)).trans (zxu (by omega) (zxu (by omega) ((p22bbfr (k + 1) 1 (by omega)).trans ((p18bfr (k + 1) 1 (by omega)).trans ((p11bbfr (k + 1) 1 (by omega)).trans (zxu (by omega) h1)))))))) ?_)
    refine And.intro ⟨(by show 40 ≤ _; omega), (zDP hd 1 rfl rfl (by omega) (by omega))⟩ ⟨_, (zWi (zRb rfl)), ?_⟩
    refine And.intro (zDX hd 0 rfl) (zrdR (v := some (k + 1)) (zDR hd 0 rfl) ?_)
    refine And.intro (zDP hd 1 rfl rfl (by omega) (by omega)) (zrd (v := (0 + 1)) zxe ?_)
    refine hQ _ _ (zxu (by omega) (zxu (by omega) (p130bhp2.trans (by omega)))) ⟨zxu (by omega) (zxu (by omega) ((p130bbfr k 24 (by omega)).trans zxe)), (by first | exact zxe | exact zxe.trans (by omega) | (refine zxe.trans ?_; omega)), (by first | exact zxe | exact zxe.trans (by omega)), zxu (by omega) (by first | exact zxe | exact zxe.trans (by omega))⟩ (fun c j h0 h1 h2 h3 => (zxcj (by omega) (zxcj (by omega) ((p130bbfr c j h0).trans (zxcj h1 (zxcj h0 ((p22bbfr c j h0).trans ((p18bfr c j h0).trans ((p11bbfr c j h0).trans (zxcj h0 rfl)))))))))) (fun c j h0 => (zxcj (by omega) rfl)))
def T_X_rhi : ZT := fun args I L R S Q => ∃ (k : Nat) (t : List Int) (p : Nat) (x : Int) (y : Int) (n : Nat) (l : Int), args = [zvr k] ∧ (zSh S) ∧ (zRs R) ∧ (zDy zT16 zF16 k R S) ∧ (zTd k t I) ∧ (I k 21 = p) ∧ (t.length ≤ 800) ∧ (I k 23 = -1) ∧ (I k 24 = 1) ∧ ((0 ≤ x ∧ x ≤ 15000) ∧ 0 ≤ y ∧ y ≤ 15000) ∧ (dAt t (p + 1) (dNu x)) ∧ ((p + 1 + (dNu x).length) < t.length ∧ wAt t (p + 1 + (dNu x).length) = 89) ∧ (dAt t ((p + 1 + (dNu x).length) + 1) (dNu y)) ∧ (((p + 1 + (dNu x).length) + 1 + (dNu y).length) < t.length ∧ wAt t ((p + 1 + (dNu x).length) + 1 + (dNu y).length) = 10) ∧ (I (k + 4) 1 = n) ∧ (n ≤ 59) ∧ (I k 38 = 0) ∧ ((I k 36 = l ∧ I k 37 = l + 1) ∧ 0 ≤ l ∧ l ≤ 6) ∧ ∀ (I' : ZI) (L' : ZI), (I' k 21 = (((p + 1 + (dNu x).length) + 1 + (dNu y).length) + 1 : Nat)) → (I' k 24 = 1) → (I' (k + 4) 1 = n + 1) → ((I' (k + 5) (60 + n) = 0 ∧ I' (k + 10) (60 + n) = l ∧ I' (k + 11) (60 + n) = l + 1 ∧ I' (k + 12) (60 + n) = 0) ∧ (L' (k + 6) (60 + n) = x ∧ L' (k + 7) (60 + n) = y) ∧ L' (k + 8) (60 + n) = x ∧ L' (k + 9) (60 + n) = y) → (∀ c j : Nat, ¬ (c = k ∧ j = 21) → ¬ (c = k ∧ j = 24) → ¬ (c = k + 4 ∧ j = 1) → ¬ (c = k + 5 ∧ j = 60 + n) → ¬ (c = k + 10 ∧ j = 60 + n) → ¬ (c = k + 11 ∧ j = 60 + n) → ¬ (c = k + 12 ∧ j = 60 + n) → I' c j = I c j) → (∀ c j : Nat, ¬ (c = k + 6 ∧ j = 60 + n) → ¬ (c = k + 7 ∧ j = 60 + n) → ¬ (c = k + 8 ∧ j = 60 + n) → ¬ (c = k + 9 ∧ j = 60 + n) → L' c j = L c j) → Q none I' L' R S
theorem sn_X_rhi : ZSnd 5 16 23 T_X_rhi := ZSnd.of (zT16_23 4) (by
  rintro args I L R S Q hz ⟨k, t, p, x, y, n, l, rfl, hS, hR, hd, hTd, hp, ht8, hw, hme, hx, hA1, hc1, hA2, hc2, h4, hn9, hcu, hlr, hQ⟩
  have hk5 := hd.1
  obtain ⟨ht0, htt⟩ := id hTd
  have hd1 := dNu_1 (v := x) (by omega)
  have hd2 := dNu_1 (v := y) (by omega)
  obtain ⟨⟨hl36, hl37⟩, hll⟩ := id hlr
  refine And.intro rfl ?_
  refine And.intro (zDX hd 0 rfl) (zrd (v := p) hp ?_)
  refine And.intro (zDX hd 0 rfl) ⟨_, (zWi (by omega)), ?_⟩
  refine And.intro (zDX hd 0 rfl) ⟨_, sn_X_num.up (by decide), ?_⟩
  refine ⟨_, t, (p + 1), x, rfl, hS, hR, hd, (by first | exact (zTd_fr hTd (fun c j h => (zxcj (by omega) rfl))) | (clear hQ; grind [xu])), (zxe.trans (by omega)), (by omega), (Eq.trans (b := ((-1) : Int)) (zxs (by decide) hw) (by omega)), (by omega), hA1, (by clear hQ; grind [xu]), (fun q => by omega), ?_⟩
  intro v11o I11o p11hv p11bhp2 p11bbfr
  refine And.intro (zDX hd 0 rfl) ⟨_, sn_X_exp.up (by decide), ?_⟩
  refine ⟨_, t, (p + 1 + (dNu x).length), (89 : Int), rfl, hS, hR, hd, (by first | exact (zTd_fr hTd (fun c j h => ((p11bbfr c j (by omega)).trans (zxcj (by omega) rfl)))) | (clear hQ; grind [xu])), p11bhp2, (by omega), (Eq.trans (b := ((-1) : Int)) ((p11bbfr k 23 (by omega)).trans (zxs (by decide) hw)) (by omega)), (by omega), (by omega), ?_⟩
  intro I18o p18hp2 p18bfr
  refine And.intro (zDX hd 0 rfl) ⟨_, sn_X_num.up (by decide), ?_⟩
  refine ⟨_, t, ((p + 1 + (dNu x).length) + 1), y, rfl, hS, hR, hd, (by first | exact (zTd_fr hTd (fun c j h => ((p18bfr c j (by omega)).trans ((p11bbfr c j (by omega)).trans (zxcj (by omega) rfl))))) | (clear hQ; grind [xu])), (p18hp2.trans (by omega)), (by omega), (Eq.trans (b := ((-1) : Int)) ((p18bfr k 23 (by omega)).trans ((p11bbfr k 23 (by omega)).trans (zxs (by decide) hw))) (by omega)), (by omega), hA2, (by clear hQ; grind [xu]), (fun q => by omega), ?_⟩
  intro v22o I22o p22hv p22bhp2 p22bbfr
  refine And.intro (zDX hd 0 rfl) (zrd (v := (-1)) ((p22bbfr k 23 (by omega)).trans ((p18bfr k 23 (by omega)).trans ((p11bbfr k 23 (by omega)).trans (zxs (by decide) hw)))) ?_)
  refine And.intro ⟨(zRb rfl), (zRb rfl)⟩ (zbf rfl ?_)
  refine And.intro (zDX hd 0 rfl) ⟨_, sn_X_now.up (by decide), ?_⟩
  refine ⟨_, t, ((p + 1 + (dNu x).length) + 1 + (dNu y).length), rfl, hS, hR, hd, (by first | exact (zTd_fr hTd (fun c j h => ((p22bbfr c j (by omega)).trans ((p18bfr c j (by omega)).trans ((p11bbfr c j (by omega)).trans (zxcj (by omega) rfl)))))) | (clear hQ; grind [xu])), p22bhp2, (by omega), (by omega), ?_⟩
  intro v35o p35hv p35bhv2
  refine And.intro ⟨(by omega), (zRb rfl)⟩ ⟨fun h40 => ?_, fun h40 => ?_⟩
  · refine And.intro (zRb rfl) (zbt rfl ?_)
    refine Exists.intro _ (And.intro (zinl_ok (zT16_13 3)) (And.intro rfl ?_))
    refine ⟨_, _, ⟨zW6i (by omega), zW6i (zRL rfl)⟩, fun z4_133 c4_133 => ?_⟩
    refine And.intro c4_133.2.2 ⟨(fun h5_133 => False.elim (by omega)), fun h5_133 => ?_⟩
    refine ⟨_, _, ⟨zW6i (by omega), zW6i (zRL rfl)⟩, fun z12_133 c12_133 => ?_⟩
    refine And.intro c12_133.2.2 ⟨(fun h13_133 => False.elim (by omega)), fun h13_133 => ?_⟩
    refine ⟨_, _, ⟨zW6i (by omega), zW6i (zRL rfl)⟩, fun z20_133 c20_133 => ?_⟩
    refine And.intro c20_133.2.2 ⟨(fun h21_133 => False.elim (by omega)), fun h21_133 => ?_⟩
    refine ⟨_, _, ⟨zW6i (by omega), zW6i (zRL rfl)⟩, fun z28_133 c28_133 => ?_⟩
    refine And.intro c28_133.2.2 ⟨(fun h29_133 => False.elim (by omega)), fun h29_133 => ?_⟩
    refine And.intro (Or.inr rfl) ?_
    refine And.intro (zRb rfl) (zbf rfl ?_)
    refine Exists.intro _ (And.intro (zinl_ok (zT16_13 3)) (And.intro rfl ?_))
    refine ⟨_, _, ⟨zW6i (by omega), zW6i (zRL rfl)⟩, fun z4_143 c4_143 => ?_⟩
    refine And.intro c4_143.2.2 ⟨(fun h5_143 => False.elim (by omega)), fun h5_143 => ?_⟩
    refine ⟨_, _, ⟨zW6i (by omega), zW6i (zRL rfl)⟩, fun z12_143 c12_143 => ?_⟩
    refine And.intro c12_143.2.2 ⟨(fun h13_143 => False.elim (by omega)), fun h13_143 => ?_⟩
    refine ⟨_, _, ⟨zW6i (by omega), zW6i (zRL rfl)⟩, fun z20_143 c20_143 => ?_⟩
    refine And.intro c20_143.2.2 ⟨(fun h21_143 => False.elim (by omega)), fun h21_143 => ?_⟩
    refine ⟨_, _, ⟨zW6i (by omega), zW6i (zRL rfl)⟩, fun z28_143 c28_143 => ?_⟩
    refine And.intro c28_143.2.2 ⟨(fun h29_143 => False.elim (by omega)), fun h29_143 => ?_⟩
    refine And.intro (Or.inr rfl) ?_
    refine And.intro (zRb rfl) (zbf rfl ?_)
    refine And.intro (zDX hd 0 rfl) (zrdR (v := some (k + 4)) (zDR hd 3 rfl) ?_)
    refine And.intro (zDP hd 4 rfl rfl (by omega) (by omega)) (zrd (v := n) ((p22bbfr (k + 4) 1 (by omega)).trans ((p18bfr (k + 4) 1 (by omega)).trans ((p11bbfr (k + 4) 1 (by omega)).trans (zxu (by omega) h4)))) ?_)
    refine And.intro ⟨(by omega), (zRb rfl)⟩ ⟨(fun h157 => False.elim (by omega)), fun h157 => ?_⟩
    refine And.intro (zDX hd 0 rfl) (Exists.intro _ (And.intro (zinl_ok (zT16_15 3)) (And.intro rfl ?_)))
    refine And.intro (zDX hd 0 rfl) (zrd (v := 1) ((p22bbfr k 24 (by omega)).trans ((p18bfr k 24 (by omega)).trans ((p11bbfr k 24 (by omega)).trans (zxs (by decide) hme)))) ?_)
    refine And.intro (zRb rfl) (zbf rfl ?_)
    refine And.intro (zRb rfl) (zbf rfl ?_)
    refine And.intro ⟨(zDX hd 0 rfl), (Or.inr rfl)⟩ ?_
    refine And.intro (zDX hd 0 rfl) ⟨_, sn_X_eol.up (by decide), ?_⟩
    refine ⟨_, t, ((p + 1 + (dNu x).length) + 1 + (dNu y).length), rfl, hS, hR, hd, (by first | exact (zTd_fr hTd (fun c j h => (zxcj (by omega) ((p22bbfr c j (by omega)).trans ((p18bfr c j (by omega)).trans ((p11bbfr c j (by omega)).trans (zxcj (by omega) rfl))))))) | (clear hQ; grind [xu])), (zxs (by decide) p22bhp2), (by omega), (Eq.trans (b := ((-1) : Int)) (zxs (by decide) ((p22bbfr k 23 (by omega)).trans ((p18bfr k 23 (by omega)).trans ((p11bbfr k 23 (by omega)).trans (zxs (by decide) hw))))) (by omega)), zxe, (by omega), ?_⟩
    intro v169o I169o p169hv p169bhp2 p169bbfr
    refine And.intro (by omega) ⟨(fun h172 => False.elim (by omega)), fun h172 => ?_⟩
    refine And.intro (zDX hd 0 rfl) (zrd (v := 0) ((p169bbfr k 38 (by omega)).trans (zxs (by decide) ((p22bbfr k 38 (by omega)).trans ((p18bfr k 38 (by omega)).trans ((p11bbfr k 38 (by omega)).trans (zxs (by decide) hcu)))))) ?_)
    refine And.intro (zRb rfl) (zbt rfl ?_)
    refine And.intro (zDX hd 0 rfl) (zrd (v := l) ((p169bbfr k 36 (by omega)).trans (zxs (by decide) ((p22bbfr k 36 (by omega)).trans ((p18bfr k 36 (by omega)).trans ((p11bbfr k 36 (by omega)).trans (zxs (by decide) hl36)))))) ?_)
    refine And.intro (zRb rfl) (zbt rfl ?_)
    refine And.intro (zDX hd 0 rfl) (zrd (v := (l + 1)) ((p169bbfr k 37 (by omega)).trans (zxs (by decide) ((p22bbfr k 37 (by omega)).trans ((p18bfr k 37 (by omega)).trans ((p11bbfr k 37 (by omega)).trans (zxs (by decide) hl37)))))) ?_)
    refine And.intro (zDX hd 0 rfl) (Exists.intro _ (And.intro (zinl_ok (zT16_0 3)) (And.intro rfl ?_)))
    refine And.intro (zDX hd 0 rfl) (zrdR (v := some (k + 4)) (zDR hd 3 rfl) ?_)
    refine And.intro (zDP hd 4 rfl rfl (by omega) (by omega)) (zrd (v := n) ((p169bbfr (k + 4) 1 (by omega)).trans (zxu (by omega) ((p22bbfr (k + 4) 1 (by omega)).trans ((p18bfr (k + 4) 1 (by omega)).trans ((p11bbfr (k + 4) 1 (by omega)).trans (zxu (by omega) h4)))))) ?_)
    refine And.intro (zDX hd 0 rfl) (zrdR (v := some (k + 5)) (zDR hd 4 rfl) ?_)
    refine And.intro ⟨(by show 40 ≤ _; omega), (zDP hd 5 rfl rfl (by omega) (by omega))⟩ ⟨_, (zWi (zRb rfl)), ?_⟩
    refine And.intro (zDX hd 0 rfl) (zrdR (v := some (k + 6)) (zDR hd 5 rfl) ?_)
    refine And.intro ⟨(by show 40 ≤ _; omega), (zDP hd 6 rfl rfl (by omega) (by omega))⟩ ⟨_, zW6i (by omega), ?_⟩
    refine And.intro (zDX hd 0 rfl) (zrdR (v := some (k + 7)) (zDR hd 6 rfl) ?_)
    refine And.intro ⟨(by show 40 ≤ _; omega), (zDP hd 7 rfl rfl (by omega) (by omega))⟩ ⟨_, zW6i (by omega), ?_⟩
    refine And.intro (zDX hd 0 rfl) (zrdR (v := some (k + 8)) (zDR hd 7 rfl) ?_)
    refine And.intro ⟨(by show 40 ≤ _; omega), (zDP hd 8 rfl rfl (by omega) (by omega))⟩ ⟨_, zW6i (by omega), ?_⟩
    refine And.intro (zDX hd 0 rfl) (zrdR (v := some (k + 9)) (zDR hd 8 rfl) ?_)
    refine And.intro ⟨(by show 40 ≤ _; omega), (zDP hd 9 rfl rfl (by omega) (by omega))⟩ ⟨_, zW6i (by omega), ?_⟩
    refine And.intro (zDX hd 0 rfl) (zrdR (v := some (k + 10)) (zDR hd 9 rfl) ?_)
    refine And.intro ⟨(by show 40 ≤ _; omega), (zDP hd 10 rfl rfl (by omega) (by omega))⟩ ⟨_, (zWi (by omega)), ?_⟩
    refine And.intro (zDX hd 0 rfl) (zrdR (v := some (k + 11)) (zDR hd 10 rfl) ?_)
    refine And.intro ⟨(by show 40 ≤ _; omega), (zDP hd 11 rfl rfl (by omega) (by omega))⟩ ⟨_, (zWi (by omega)), ?_⟩
    refine And.intro (zDX hd 0 rfl) (zrdR (v := some (k + 12)) (zDR hd 11 rfl) ?_)
    refine And.intro ⟨(by show 40 ≤ _; omega), Or.inr ⟨(zDP hd 12 rfl rfl (by omega) (by omega)), (Or.inl rfl)⟩⟩ ?_
    refine And.intro (zDX hd 0 rfl) (zrdR (v := some (k + 4)) (zDR hd 3 rfl) ?_)
    refine And.intro (zDP hd 4 rfl rfl (by omega) (by omega)) (zrd (v := n) (zxu (by omega) (zxu (by omega) (zxu (by omega) (zxu (by omega) ((p169bbfr (k + 4) 1 (by omega)).trans (zxu (by omega) ((p22bbfr (k + 4) 1 (by omega)).trans ((p18bfr (k + 4) 1 (by omega)).trans ((p11bbfr (k + 4) 1 (by omega)).trans (zxu (by omega) h4)))))))))) ?_)
    refine And.intro ⟨(by show 40 ≤ _; omega), (zDP hd 4 rfl rfl (by omega) (by omega))⟩ ⟨_, (zWi (by omega)), ?_⟩
    refine And.intro (zDX hd 0 rfl) (zrdR (v := some (k + 4)) (zDR hd 3 rfl) ?_)
    refine And.intro (zDP hd 4 rfl rfl (by omega) (by omega)) (zrd (v := (n + 1)) zxe ?_)
    refine hQ _ _ (by refine Eq.trans ?_ p169bhp2; repeat (first | rfl | refine zxu (by omega) ?_)) (by refine Eq.trans ?_ ((p169bbfr k 24 (by omega)).trans zxe); repeat (first | rfl | refine zxu (by omega) ?_)) (by first | exact zxe | exact zxe.trans (by omega)) ⟨⟨(by repeat (first | exact zxe | exact zxe' (by omega) | exact (zxe' (by omega)).trans (by omega) | refine zxu (by omega) ?_ | refine zxs (by omega) ?_)), (by repeat (first | exact zxe | exact zxe' (by omega) | exact (zxe' (by omega)).trans (by omega) | refine zxu (by omega) ?_ | refine zxs (by omega) ?_)), (by repeat (first | exact zxe | exact zxe' (by omega) | exact (zxe' (by omega)).trans (by omega) | refine zxu (by omega) ?_ | refine zxs (by omega) ?_)), (by repeat (first | exact zxe | exact zxe' (by omega) | exact (zxe' (by omega)).trans (by omega) | refine zxu (by omega) ?_ | refine zxs (by omega) ?_))⟩, ⟨(by repeat (first | exact zxe | exact zxe' (by omega) | exact (zxe' (by omega)).trans (by omega) | refine zxu (by omega) ?_ | refine zxs (by omega) ?_)), (by repeat (first | exact zxe | exact zxe' (by omega) | exact (zxe' (by omega)).trans (by omega) | refine zxu (by omega) ?_ | refine zxs (by omega) ?_))⟩, (by repeat (first | exact zxe | exact zxe' (by omega) | exact (zxe' (by omega)).trans (by omega) | refine zxu (by omega) ?_ | refine zxs (by omega) ?_)), (by repeat (first | exact zxe | exact zxe' (by omega) | exact (zxe' (by omega)).trans (by omega) | refine zxu (by omega) ?_ | refine zxs (by omega) ?_))⟩ (fun c j h0 h1 h2 h3 h4 h5 h6 => (zxcj (by omega) (zxcj (by omega) (zxcj (by omega) (zxcj (by omega) (zxcj (by omega) ((p169bbfr c j h0).trans (zxcj h1 ((p22bbfr c j h0).trans ((p18bfr c j h0).trans ((p11bbfr c j h0).trans (zxcj h0 rfl)))))))))))) (fun c j g1 g2 g3 g4 => zxcj (fun q => g4 ⟨q.1, by have := q.2; omega⟩) (zxcj (fun q => g3 ⟨q.1, by have := q.2; omega⟩) (zxcj (fun q => g2 ⟨q.1, by have := q.2; omega⟩) (zxcj (fun q => g1 ⟨q.1, by have := q.2; omega⟩) rfl))))
  · exact False.elim (by omega))
