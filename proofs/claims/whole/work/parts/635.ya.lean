/-! ya -/
def T_X_l0 : ZT := fun args I L R S Q => ∃ (k : Nat) (t : List Int) (p : Nat), args = [zvr k] ∧ (zSh S) ∧ (zRs R) ∧ (zDy zT16 zF16 k R S) ∧ (zTd k t I) ∧ (I k 21 = p) ∧ (t.length ≤ 800) ∧ (I k 23 = -1) ∧ (I k 34 = 0) ∧ (p < t.length ∧ wAt t p = 77) ∧ (p + 1 < t.length ∧ wAt t (p + 1) = 52) ∧ (p + 2 < t.length ∧ wAt t (p + 2) = 56) ∧ (p + 3 < t.length ∧ wAt t (p + 3) = 10) ∧ ∀ (I' : ZI), (I' k 21 = (p + 4 : Nat)) → (I' k 34 = 1 ∧ I' k 24 = 1) → (∀ c j : Nat, ¬ (c = k ∧ j = 21) → ¬ (c = k ∧ j = 22) → ¬ (c = k ∧ j = 24) → ¬ (c = k ∧ j = 34) → I' c j = I c j) → Q none I' L R S
theorem sn_X_l0 : ZSnd 7 16 25 T_X_l0 := ZSnd.of (zT16_25 6) (by
  rintro args I L R S Q hz ⟨k, t, p, rfl, hS, hR, hd, hTd, hp, ht8, hw, hst0, hc0, hc1, hc2, hc3, hQ⟩
  have hk5 := hd.1
  obtain ⟨ht0, htt⟩ := id hTd
  refine And.intro rfl ?_
  refine And.intro (zDX hd 0 rfl) (zrd (v := p) hp ?_)
  refine And.intro (zDX hd 0 rfl) ⟨_, (zWi (by omega)), ?_⟩
  refine And.intro ⟨(zDX hd 0 rfl), (Or.inr rfl)⟩ ?_
  refine And.intro (zDX hd 0 rfl) (zrd (v := 0) (zxs (by decide) (zxs (by decide) hst0)) ?_)
  refine And.intro (zRb rfl) (zbf rfl ?_)
  refine And.intro (zDX hd 0 rfl) ⟨_, sn_X_exp.up (by decide), ?_⟩
  refine ⟨_, t, p, (77 : Int), rfl, hS, hR, hd, (by first | exact (zTd_fr hTd (fun c j h => (zxcj (by omega) (zxcj (by omega) rfl)))) | (clear hQ; grind [xu])), (zxs (by decide) (zxs (by decide) hp)), (by omega), (Eq.trans (b := ((-1) : Int)) (zxs (by decide) (zxs (by decide) hw)) (by omega)), (by omega), (by omega), ?_⟩
  intro I23o p23hp2 p23bfr
  refine And.intro (zDX hd 0 rfl) ⟨_, sn_X_exp.up (by decide), ?_⟩
  refine ⟨_, t, (p + 1), (52 : Int), rfl, hS, hR, hd, (by first | exact (zTd_fr hTd (fun c j h => ((p23bfr c j (by omega)).trans (zxcj (by omega) (zxcj (by omega) rfl))))) | (clear hQ; grind [xu])), (p23hp2.trans (by omega)), (by omega), (Eq.trans (b := ((-1) : Int)) ((p23bfr k 23 (by omega)).trans (zxs (by decide) (zxs (by decide) hw))) (by omega)), (by omega), (by omega), ?_⟩
  intro I29o p29hp2 p29bfr
  refine And.intro (zDX hd 0 rfl) ⟨_, sn_X_exp.up (by decide), ?_⟩
  refine ⟨_, t, (p + 2), (56 : Int), rfl, hS, hR, hd, (by first | exact (zTd_fr hTd (fun c j h => ((p29bfr c j (by omega)).trans ((p23bfr c j (by omega)).trans (zxcj (by omega) (zxcj (by omega) rfl)))))) | (clear hQ; grind [xu])), (p29hp2.trans (by omega)), (by omega), (Eq.trans (b := ((-1) : Int)) ((p29bfr k 23 (by omega)).trans ((p23bfr k 23 (by omega)).trans (zxs (by decide) (zxs (by decide) hw)))) (by omega)), (by omega), (by omega), ?_⟩
  intro I35o p35hp2 p35bfr
  refine And.intro (zDX hd 0 rfl) ⟨_, sn_X_eol.up (by decide), ?_⟩
  refine ⟨_, t, (p + 3), rfl, hS, hR, hd, (by first | exact (zTd_fr hTd (fun c j h => ((p35bfr c j (by omega)).trans ((p29bfr c j (by omega)).trans ((p23bfr c j (by omega)).trans (zxcj (by omega) (zxcj (by omega) rfl))))))) | (clear hQ; grind [xu])), (p35hp2.trans (by omega)), (by omega), (Eq.trans (b := ((-1) : Int)) ((p35bfr k 23 (by omega)).trans ((p29bfr k 23 (by omega)).trans ((p23bfr k 23 (by omega)).trans (zxs (by decide) (zxs (by decide) hw))))) (by omega)), ((p35bfr k 24 (by omega)).trans ((p29bfr k 24 (by omega)).trans ((p23bfr k 24 (by omega)).trans zxe))), (by omega), ?_⟩
  intro v39o I39o p39hv p39bhp2 p39bbfr
  refine And.intro (by omega) ⟨(fun h42 => False.elim (by omega)), fun h42 => ?_⟩
  refine And.intro (zDX hd 0 rfl) ⟨_, (zWi (zRb rfl)), ?_⟩
  refine hQ _ (zxs (by decide) (p39bhp2.trans (by omega))) ⟨zxe, zxs (by decide) ((p39bbfr k 24 (by omega)).trans ((p35bfr k 24 (by omega)).trans ((p29bfr k 24 (by omega)).trans ((p23bfr k 24 (by omega)).trans zxe))))⟩ (fun c j h0 h1 h2 h3 => (zxcj h3 ((p39bbfr c j h0).trans ((p35bfr c j h0).trans ((p29bfr c j h0).trans ((p23bfr c j h0).trans (zxcj h2 (zxcj h1 rfl)))))))))
def T_X_l1 : ZT := fun args I L R S Q => ∃ (k : Nat) (t : List Int) (p : Nat) (l : Int), args = [zvr k] ∧ (zSh S) ∧ (zRs R) ∧ (zDy zT16 zF16 k R S) ∧ (zTd k t I) ∧ (I k 21 = p) ∧ (t.length ≤ 800) ∧ (I k 23 = -1) ∧ (I k 34 = 1) ∧ (p < t.length ∧ wAt t p = 76) ∧ (I (k + 1) 1 = 0) ∧ (0 ≤ l ∧ l ≤ 6) ∧ (dAt t (p + 1) (dNu l)) ∧ ((p + 1 + (dNu l).length) < t.length ∧ wAt t (p + 1 + (dNu l).length) = 44) ∧ (dAt t ((p + 1 + (dNu l).length) + 1) (dNu (l + 1))) ∧ (((p + 1 + (dNu l).length) + 1 + (dNu (l + 1)).length) < t.length ∧ wAt t ((p + 1 + (dNu l).length) + 1 + (dNu (l + 1)).length) = 10) ∧ ∀ (I' : ZI), (I' k 21 = (((p + 1 + (dNu l).length) + 1 + (dNu (l + 1)).length) + 1 : Nat)) → (I' k 24 = 1 ∧ I' k 35 = 1 ∧ I' k 36 = l ∧ I' k 37 = l + 1) → (∀ c j : Nat, ¬ (c = k ∧ j = 21) → ¬ (c = k ∧ j = 24) → ¬ (c = k ∧ j = 35) → ¬ (c = k ∧ j = 36) → ¬ (c = k ∧ j = 37) → ¬ (c = k ∧ j = 22) → I' c j = I c j) → Q none I' L R S
theorem sn_X_l1 : ZSnd 7 16 25 T_X_l1 := ZSnd.of (zT16_25 6) (by
  rintro args I L R S Q hz ⟨k, t, p, l, rfl, hS, hR, hd, hTd, hp, ht8, hw, hst0, h0, h1, hl, hA1, hc1, hA2, hc2, hQ⟩
  have hk5 := hd.1
  obtain ⟨ht0, htt⟩ := id hTd
  refine And.intro rfl ?_
  refine And.intro (zDX hd 0 rfl) (zrd (v := p) hp ?_)
  refine And.intro (zDX hd 0 rfl) ⟨_, (zWi (by omega)), ?_⟩
  refine And.intro ⟨(zDX hd 0 rfl), (Or.inr rfl)⟩ ?_
  refine And.intro (zDX hd 0 rfl) (zrd (v := 1) (zxs (by decide) (zxs (by decide) hst0)) ?_)
  refine And.intro (zRb rfl) (zbt rfl ?_)
  refine And.intro (zDX hd 0 rfl) (zrd (v := 1) (zxs (by decide) (zxs (by decide) hst0)) ?_)
  refine And.intro ⟨(zRb rfl), (zRb rfl)⟩ (zbf rfl ?_)
  refine And.intro (zDX hd 0 rfl) ⟨_, sn_X_rf1.up (by decide), ?_⟩
  refine ⟨_, t, p, l, rfl, hS, hR, hd, (by first | exact (zTd_fr hTd (fun c j h => (zxcj (by omega) (zxcj (by omega) rfl)))) | (clear hQ; grind [xu])), (zxs (by decide) (zxs (by decide) hp)), (by omega), (Eq.trans (b := ((-1) : Int)) (zxs (by decide) (zxs (by decide) hw)) (by omega)), zxe, (by omega), (zxu (by omega) (zxu (by omega) h1)), (by omega), (by first | exact hA1 | (clear hQ; grind [xu])), (by first | exact hc1 | (clear hQ; grind [xu])), (by first | exact hA2 | (clear hQ; grind [xu])), (by first | exact hc2 | (clear hQ; grind [xu])), ?_⟩
  intro I62o p62hp2 p62bhla p62bbfr
  refine hQ _ p62hp2 p62bhla (fun c j h0 h1 h2 h3 h4 h5 => ((p62bbfr c j h0 h1 h2 h3 h4).trans (zxcj h1 (zxcj h5 rfl)))))
def T_X_l2 : ZT := fun args I L R S Q => ∃ (k : Nat) (t : List Int) (p : Nat), args = [zvr k] ∧ (zSh S) ∧ (zRs R) ∧ (zDy zT16 zF16 k R S) ∧ (zTd k t I) ∧ (I k 21 = p) ∧ (t.length ≤ 800) ∧ (I k 23 = -1) ∧ (I k 34 = 1) ∧ (p < t.length ∧ wAt t p = 84) ∧ (I k 35 = 1) ∧ (I (k + 1) 1 = 0) ∧ (dAt t (p + 1) (dNu 0)) ∧ ((p + 1 + (dNu 0).length) < t.length ∧ wAt t (p + 1 + (dNu 0).length) = 67) ∧ (dAt t ((p + 1 + (dNu 0).length) + 1) (dNu 300)) ∧ (((p + 1 + (dNu 0).length) + 1 + (dNu 300).length) < t.length ∧ wAt t ((p + 1 + (dNu 0).length) + 1 + (dNu 300).length) = 80) ∧ (((p + 1 + (dNu 0).length) + 1 + (dNu 300).length) + 1 < t.length ∧ wAt t (((p + 1 + (dNu 0).length) + 1 + (dNu 300).length) + 1) = 10) ∧ ∀ (I' : ZI) (L' : ZI), (I' k 21 = (((p + 1 + (dNu 0).length) + 1 + (dNu 300).length) + 2 : Nat)) → (I' k 24 = 1 ∧ I' (k + 1) 1 = 1 ∧ L' (k + 2) 10 = 300 ∧ I' (k + 3) 10 = 1) → (∀ c j : Nat, ¬ (c = k ∧ j = 21) → ¬ (c = k ∧ j = 24) → ¬ (c = k + 1 ∧ j = 1) → ¬ (c = k + 3 ∧ j = 10) → ¬ (c = k ∧ j = 22) → I' c j = I c j) → (∀ c j : Nat, ¬ (c = k + 2 ∧ j = 10) → L' c j = L c j) → Q none I' L' R S
theorem sn_X_l2 : ZSnd 7 16 25 T_X_l2 := ZSnd.of (zT16_25 6) (by
  rintro args I L R S Q hz ⟨k, t, p, rfl, hS, hR, hd, hTd, hp, ht8, hw, hst0, h0, hhl, h1, hA1, hc1, hA2, hc2, hc3, hQ⟩
  have hk5 := hd.1
  obtain ⟨ht0, htt⟩ := id hTd
  refine And.intro rfl ?_
  refine And.intro (zDX hd 0 rfl) (zrd (v := p) hp ?_)
  refine And.intro (zDX hd 0 rfl) ⟨_, (zWi (by omega)), ?_⟩
  refine And.intro ⟨(zDX hd 0 rfl), (Or.inr rfl)⟩ ?_
  refine And.intro (zDX hd 0 rfl) (zrd (v := 1) (zxs (by decide) (zxs (by decide) hst0)) ?_)
  refine And.intro (zRb rfl) (zbt rfl ?_)
  refine And.intro (zDX hd 0 rfl) (zrd (v := 1) (zxs (by decide) (zxs (by decide) hst0)) ?_)
  refine And.intro ⟨(zRb rfl), (zRb rfl)⟩ (zbf rfl ?_)
  refine And.intro (zDX hd 0 rfl) ⟨_, sn_X_rf2.up (by decide), ?_⟩
  refine ⟨_, t, p, rfl, hS, hR, hd, (by first | exact (zTd_fr hTd (fun c j h => (zxcj (by omega) (zxcj (by omega) rfl)))) | (clear hQ; grind [xu])), (zxs (by decide) (zxs (by decide) hp)), (by omega), (Eq.trans (b := ((-1) : Int)) (zxs (by decide) (zxs (by decide) hw)) (by omega)), zxe, (by omega), (zxs (by decide) (zxs (by decide) hhl)), (zxu (by omega) (zxu (by omega) h1)), (by first | exact hA1 | (clear hQ; grind [xu])), (by first | exact hc1 | (clear hQ; grind [xu])), (by first | exact hA2 | (clear hQ; grind [xu])), (by first | exact hc2 | (clear hQ; grind [xu])), (by first | exact hc3 | (clear hQ; grind [xu])), ?_⟩
  intro I62o L62o p62hp2 p62bhla p62bbfr p62bbbfrL
  refine hQ _ _ p62hp2 p62bhla (fun c j h0 h1 h2 h3 h4 => ((p62bbfr c j h0 h1 (by omega) (by omega)).trans (zxcj h1 (zxcj h4 rfl)))) (fun c j h0 => ((p62bbbfrL c j (by omega)).trans rfl)))
def T_X_l3 : ZT := fun args I L R S Q => ∃ (k : Nat) (t : List Int) (p : Nat), args = [zvr k] ∧ (zSh S) ∧ (zRs R) ∧ (zDy zT16 zF16 k R S) ∧ (zTd k t I) ∧ (I k 21 = p) ∧ (t.length ≤ 800) ∧ (I k 23 = -1) ∧ (I k 34 = 1) ∧ (p < t.length ∧ wAt t p = 37) ∧ (I k 35 = 1) ∧ (p + 1 < t.length ∧ wAt t (p + 1) = 10) ∧ ∀ (I' : ZI), (I' k 21 = (p + 2 : Nat)) → (I' k 34 = 2) → (∀ c j : Nat, ¬ (c = k ∧ j = 21) → ¬ (c = k ∧ j = 34) → ¬ (c = k ∧ j = 22) → ¬ (c = k ∧ j = 24) → I' c j = I c j) → Q none I' L R S
theorem sn_X_l3 : ZSnd 7 16 25 T_X_l3 := ZSnd.of (zT16_25 6) (by
  rintro args I L R S Q hz ⟨k, t, p, rfl, hS, hR, hd, hTd, hp, ht8, hw, hst0, h0, hhl, hc1, hQ⟩
  have hk5 := hd.1
  obtain ⟨ht0, htt⟩ := id hTd
  refine And.intro rfl ?_
  refine And.intro (zDX hd 0 rfl) (zrd (v := p) hp ?_)
  refine And.intro (zDX hd 0 rfl) ⟨_, (zWi (by omega)), ?_⟩
  refine And.intro ⟨(zDX hd 0 rfl), (Or.inr rfl)⟩ ?_
  refine And.intro (zDX hd 0 rfl) (zrd (v := 1) (zxs (by decide) (zxs (by decide) hst0)) ?_)
  refine And.intro (zRb rfl) (zbt rfl ?_)
  refine And.intro (zDX hd 0 rfl) (zrd (v := 1) (zxs (by decide) (zxs (by decide) hst0)) ?_)
  refine And.intro ⟨(zRb rfl), (zRb rfl)⟩ (zbf rfl ?_)
  refine And.intro (zDX hd 0 rfl) ⟨_, sn_X_rf3.up (by decide), ?_⟩
  refine ⟨_, t, p, rfl, hS, hR, hd, (by first | exact (zTd_fr hTd (fun c j h => (zxcj (by omega) (zxcj (by omega) rfl)))) | (clear hQ; grind [xu])), (zxs (by decide) (zxs (by decide) hp)), (by omega), (Eq.trans (b := ((-1) : Int)) (zxs (by decide) (zxs (by decide) hw)) (by omega)), zxe, (by omega), (zxs (by decide) (zxs (by decide) hhl)), (by omega), ?_⟩
  intro I62o p62hp2 p62bhst p62bbfr
  refine hQ _ p62hp2 p62bhst (fun c j h0 h1 h2 h3 => ((p62bbfr c j h0 h1).trans (zxcj h3 (zxcj h2 rfl)))))
def T_X_l4 : ZT := fun args I L R S Q => ∃ (k : Nat) (t : List Int) (p : Nat), args = [zvr k] ∧ (zSh S) ∧ (zRs R) ∧ (zDy zT16 zF16 k R S) ∧ (zTd k t I) ∧ (I k 21 = p) ∧ (t.length ≤ 800) ∧ (I k 23 = -1) ∧ (I k 34 = 2) ∧ (p < t.length ∧ wAt t p = 84) ∧ (I (k + 1) 1 = 1) ∧ (dAt t (p + 1) (dNu 0)) ∧ ((p + 1 + (dNu 0).length) < t.length ∧ wAt t (p + 1 + (dNu 0).length) = 10) ∧ ∀ (I' : ZI), (I' k 21 = ((p + 1 + (dNu 0).length) + 1 : Nat)) → (I' k 38 = 0) → (∀ c j : Nat, ¬ (c = k ∧ j = 21) → ¬ (c = k ∧ j = 38) → ¬ (c = k ∧ j = 22) → ¬ (c = k ∧ j = 24) → I' c j = I c j) → Q none I' L R S
theorem sn_X_l4 : ZSnd 7 16 25 T_X_l4 := ZSnd.of (zT16_25 6) (by
  rintro args I L R S Q hz ⟨k, t, p, rfl, hS, hR, hd, hTd, hp, ht8, hw, hst0, h0, h1, hA1, hc1, hQ⟩
  have hk5 := hd.1
  obtain ⟨ht0, htt⟩ := id hTd
  refine And.intro rfl ?_
  refine And.intro (zDX hd 0 rfl) (zrd (v := p) hp ?_)
  refine And.intro (zDX hd 0 rfl) ⟨_, (zWi (by omega)), ?_⟩
  refine And.intro ⟨(zDX hd 0 rfl), (Or.inr rfl)⟩ ?_
  refine And.intro (zDX hd 0 rfl) (zrd (v := 2) (zxs (by decide) (zxs (by decide) hst0)) ?_)
  refine And.intro (zRb rfl) (zbt rfl ?_)
  refine And.intro (zDX hd 0 rfl) (zrd (v := 2) (zxs (by decide) (zxs (by decide) hst0)) ?_)
  refine And.intro ⟨(zRb rfl), (zRb rfl)⟩ (zbt rfl ?_)
  refine And.intro (zDX hd 0 rfl) (zrd (v := 2) (zxs (by decide) (zxs (by decide) hst0)) ?_)
  refine And.intro ⟨(zRb rfl), (zRb rfl)⟩ (zbf rfl ?_)
  refine And.intro (zDX hd 0 rfl) ⟨_, sn_X_rs1.up (by decide), ?_⟩
  refine ⟨_, t, p, rfl, hS, hR, hd, (by first | exact (zTd_fr hTd (fun c j h => (zxcj (by omega) (zxcj (by omega) rfl)))) | (clear hQ; grind [xu])), (zxs (by decide) (zxs (by decide) hp)), (by omega), (Eq.trans (b := ((-1) : Int)) (zxs (by decide) (zxs (by decide) hw)) (by omega)), zxe, (by omega), (zxu (by omega) (zxu (by omega) h1)), (by first | exact hA1 | (clear hQ; grind [xu])), (by first | exact hc1 | (clear hQ; grind [xu])), ?_⟩
  intro I77o p77hp2 p77bhcu p77bbfr
  refine hQ _ p77hp2 p77bhcu.1 (fun c j h0 h1 h2 h3 => ((p77bbfr c j h0 h3 h1).trans (zxcj h3 (zxcj h2 rfl)))))
def T_X_l5 : ZT := fun args I L R S Q => ∃ (k : Nat) (t : List Int) (p : Nat) (x : Int) (y : Int) (n : Nat) (l : Int), args = [zvr k] ∧ (zSh S) ∧ (zRs R) ∧ (zDy zT16 zF16 k R S) ∧ (zTd k t I) ∧ (I k 21 = p) ∧ (t.length ≤ 800) ∧ (I k 23 = -1) ∧ (I k 34 = 2) ∧ (p < t.length ∧ wAt t p = 88) ∧ ((0 ≤ x ∧ x ≤ 15000) ∧ 0 ≤ y ∧ y ≤ 15000) ∧ (dAt t (p + 1) (dNu x)) ∧ ((p + 1 + (dNu x).length) < t.length ∧ wAt t (p + 1 + (dNu x).length) = 89) ∧ (dAt t ((p + 1 + (dNu x).length) + 1) (dNu y)) ∧ (((p + 1 + (dNu x).length) + 1 + (dNu y).length) < t.length ∧ wAt t ((p + 1 + (dNu x).length) + 1 + (dNu y).length) = 10) ∧ (I (k + 4) 1 = n) ∧ (n ≤ 59) ∧ (I k 38 = 0) ∧ ((I k 36 = l ∧ I k 37 = l + 1) ∧ 0 ≤ l ∧ l ≤ 6) ∧ ∀ (I' : ZI) (L' : ZI), (I' k 21 = (((p + 1 + (dNu x).length) + 1 + (dNu y).length) + 1 : Nat)) → (I' (k + 4) 1 = n + 1) → ((I' (k + 5) (60 + n) = 0 ∧ I' (k + 10) (60 + n) = l ∧ I' (k + 11) (60 + n) = l + 1 ∧ I' (k + 12) (60 + n) = 0) ∧ (L' (k + 6) (60 + n) = x ∧ L' (k + 7) (60 + n) = y) ∧ L' (k + 8) (60 + n) = x ∧ L' (k + 9) (60 + n) = y) → (∀ c j : Nat, ¬ (c = k ∧ j = 21) → ¬ (c = k ∧ j = 24) → ¬ (c = k + 4 ∧ j = 1) → ¬ (c = k + 5 ∧ j = 60 + n) → ¬ (c = k + 10 ∧ j = 60 + n) → ¬ (c = k + 11 ∧ j = 60 + n) → ¬ (c = k + 12 ∧ j = 60 + n) → ¬ (c = k ∧ j = 22) → I' c j = I c j) → (∀ c j : Nat, ¬ (c = k + 6 ∧ j = 60 + n) → ¬ (c = k + 7 ∧ j = 60 + n) → ¬ (c = k + 8 ∧ j = 60 + n) → ¬ (c = k + 9 ∧ j = 60 + n) → L' c j = L c j) → Q none I' L' R S
theorem sn_X_l5 : ZSnd 7 16 25 T_X_l5 := ZSnd.of (zT16_25 6) (by
  rintro args I L R S Q hz ⟨k, t, p, x, y, n, l, rfl, hS, hR, hd, hTd, hp, ht8, hw, hst0, h0, hx, hA1, hc1, hA2, hc2, h4, hn9, hcu, hlr, hQ⟩
  have hk5 := hd.1
  obtain ⟨ht0, htt⟩ := id hTd
  refine And.intro rfl ?_
  refine And.intro (zDX hd 0 rfl) (zrd (v := p) hp ?_)
  refine And.intro (zDX hd 0 rfl) ⟨_, (zWi (by omega)), ?_⟩
  refine And.intro ⟨(zDX hd 0 rfl), (Or.inr rfl)⟩ ?_
  refine And.intro (zDX hd 0 rfl) (zrd (v := 2) (zxs (by decide) (zxs (by decide) hst0)) ?_)
  refine And.intro (zRb rfl) (zbt rfl ?_)
  refine And.intro (zDX hd 0 rfl) (zrd (v := 2) (zxs (by decide) (zxs (by decide) hst0)) ?_)
  refine And.intro ⟨(zRb rfl), (zRb rfl)⟩ (zbt rfl ?_)
  refine And.intro (zDX hd 0 rfl) (zrd (v := 2) (zxs (by decide) (zxs (by decide) hst0)) ?_)
  refine And.intro ⟨(zRb rfl), (zRb rfl)⟩ (zbf rfl ?_)
  refine And.intro (zDX hd 0 rfl) ⟨_, sn_X_rs2.up (by decide), ?_⟩
  refine ⟨_, t, p, x, y, n, l, rfl, hS, hR, hd, (by first | exact (zTd_fr hTd (fun c j h => (zxcj (by omega) (zxcj (by omega) rfl)))) | (clear hQ; grind [xu])), (zxs (by decide) (zxs (by decide) hp)), (by omega), (Eq.trans (b := ((-1) : Int)) (zxs (by decide) (zxs (by decide) hw)) (by omega)), zxe, (by omega), (by first | exact hx | (clear hQ; grind [xu])), (by first | exact hA1 | (clear hQ; grind [xu])), (by first | exact hc1 | (clear hQ; grind [xu])), (by first | exact hA2 | (clear hQ; grind [xu])), (by first | exact hc2 | (clear hQ; grind [xu])), (zxu (by omega) (zxu (by omega) h4)), (by omega), (zxs (by decide) (zxs (by decide) hcu)), (by first | exact hlr | (clear hQ; grind [xu])), ?_⟩
  intro I77o L77o p77hp2 p77bhme2 p77bbh4b p77bbbhi p77bbbbfr p77bbbbbfrL
  refine hQ _ _ p77hp2 p77bbh4b p77bbbhi (fun c j h0 h1 h2 h3 h4 h5 h6 h7 => ((p77bbbbfr c j h0 h1 (by omega) (by omega) (by omega) (by omega) (by omega)).trans (zxcj h1 (zxcj h7 rfl)))) (fun c j h0 h1 h2 h3 => ((p77bbbbbfrL c j (by omega) (by omega) (by omega) (by omega)).trans rfl)))
def T_X_l6 : ZT := fun args I L R S Q => ∃ (k : Nat) (t : List Int) (p : Nat), args = [zvr k] ∧ (zSh S) ∧ (zRs R) ∧ (zDy zT16 zF16 k R S) ∧ (zTd k t I) ∧ (I k 21 = p) ∧ (t.length ≤ 800) ∧ (I k 23 = -1) ∧ (I k 34 = 2) ∧ (p < t.length ∧ wAt t p = 77) ∧ (p + 1 < t.length ∧ wAt t (p + 1) = 51) ∧ (p + 2 < t.length ∧ wAt t (p + 2) = 48) ∧ (p + 3 < t.length ∧ wAt t (p + 3) = 10) ∧ ∀ (I' : ZI), (I' k 21 = (p + 4 : Nat)) → (I' k 34 = 3) → (∀ c j : Nat, ¬ (c = k ∧ j = 21) → ¬ (c = k ∧ j = 34) → ¬ (c = k ∧ j = 22) → ¬ (c = k ∧ j = 24) → I' c j = I c j) → Q none I' L R S
theorem sn_X_l6 : ZSnd 7 16 25 T_X_l6 := ZSnd.of (zT16_25 6) (by
  rintro args I L R S Q hz ⟨k, t, p, rfl, hS, hR, hd, hTd, hp, ht8, hw, hst0, h0, hc1, hc2, hc3, hQ⟩
  have hk5 := hd.1
  obtain ⟨ht0, htt⟩ := id hTd
  refine And.intro rfl ?_
  refine And.intro (zDX hd 0 rfl) (zrd (v := p) hp ?_)
  refine And.intro (zDX hd 0 rfl) ⟨_, (zWi (by omega)), ?_⟩
  refine And.intro ⟨(zDX hd 0 rfl), (Or.inr rfl)⟩ ?_
  refine And.intro (zDX hd 0 rfl) (zrd (v := 2) (zxs (by decide) (zxs (by decide) hst0)) ?_)
  refine And.intro (zRb rfl) (zbt rfl ?_)
  refine And.intro (zDX hd 0 rfl) (zrd (v := 2) (zxs (by decide) (zxs (by decide) hst0)) ?_)
  refine And.intro ⟨(zRb rfl), (zRb rfl)⟩ (zbt rfl ?_)
  refine And.intro (zDX hd 0 rfl) (zrd (v := 2) (zxs (by decide) (zxs (by decide) hst0)) ?_)
  refine And.intro ⟨(zRb rfl), (zRb rfl)⟩ (zbf rfl ?_)
  refine And.intro (zDX hd 0 rfl) ⟨_, sn_X_rs3.up (by decide), ?_⟩
  refine ⟨_, t, p, rfl, hS, hR, hd, (by first | exact (zTd_fr hTd (fun c j h => (zxcj (by omega) (zxcj (by omega) rfl)))) | (clear hQ; grind [xu])), (zxs (by decide) (zxs (by decide) hp)), (by omega), (Eq.trans (b := ((-1) : Int)) (zxs (by decide) (zxs (by decide) hw)) (by omega)), zxe, (by omega), (by omega), (by omega), (by omega), ?_⟩
  intro I77o p77hp2 p77bhst p77bbfr
  refine hQ _ p77hp2 p77bhst (fun c j h0 h1 h2 h3 => ((p77bbfr c j h0 h1).trans (zxcj h3 (zxcj h2 rfl)))))
