/-! xz -/
def T_X_rf1 : ZT := fun args I L R S Q => ∃ (k : Nat) (t : List Int) (p : Nat) (l : Int), args = [zvr k] ∧ (zSh S) ∧ (zRs R) ∧ (zDy zT16 zF16 k R S) ∧ (zTd k t I) ∧ (I k 21 = p) ∧ (t.length ≤ 800) ∧ (I k 23 = -1) ∧ (I k 24 = 1) ∧ (p < t.length ∧ wAt t p = 76) ∧ (I (k + 1) 1 = 0) ∧ (0 ≤ l ∧ l ≤ 6) ∧ (dAt t (p + 1) (dNu l)) ∧ ((p + 1 + (dNu l).length) < t.length ∧ wAt t (p + 1 + (dNu l).length) = 44) ∧ (dAt t ((p + 1 + (dNu l).length) + 1) (dNu (l + 1))) ∧ (((p + 1 + (dNu l).length) + 1 + (dNu (l + 1)).length) < t.length ∧ wAt t ((p + 1 + (dNu l).length) + 1 + (dNu (l + 1)).length) = 10) ∧ ∀ (I' : ZI), (I' k 21 = (((p + 1 + (dNu l).length) + 1 + (dNu (l + 1)).length) + 1 : Nat)) → (I' k 24 = 1 ∧ I' k 35 = 1 ∧ I' k 36 = l ∧ I' k 37 = l + 1) → (∀ c j : Nat, ¬ (c = k ∧ j = 21) → ¬ (c = k ∧ j = 24) → ¬ (c = k ∧ j = 35) → ¬ (c = k ∧ j = 36) → ¬ (c = k ∧ j = 37) → I' c j = I c j) → Q none I' L R S
theorem sn_X_rf1 : ZSnd 5 16 22 T_X_rf1 := ZSnd.of (zT16_22 4) (by
  rintro args I L R S Q hz ⟨k, t, p, l, rfl, hS, hR, hd, hTd, hp, ht8, hw, hme, h0, h1, hl, hA1, hc1, hA2, hc2, hQ⟩
  have hk5 := hd.1
  obtain ⟨ht0, htt⟩ := id hTd
  refine And.intro rfl ?_
  refine And.intro (zDX hd 0 rfl) ⟨_, sn_X_now.up (by decide), ?_⟩
  refine ⟨_, t, p, rfl, hS, hR, hd, (by first | exact (zTd_fr hTd (fun c j h => rfl)) | (clear hQ; grind [xu])), hp, (by omega), (by omega), ?_⟩
  intro v1o p1hv p1bhv2
  have g1 : v1o = 76 := (by omega)
  refine And.intro ⟨(by omega), (zRb rfl)⟩ ⟨(fun h8 => False.elim (by omega)), fun h8 => ?_⟩
  refine And.intro (zDX hd 0 rfl) (zrdR (v := some (k + 1)) (zDR hd 0 rfl) ?_)
  refine And.intro (zDP hd 1 rfl rfl (by omega) (by omega)) (zrd (v := 0) h1 ?_)
  refine And.intro (zRb rfl) (zbf rfl ?_)
  refine And.intro (zDX hd 0 rfl) ⟨_, sn_X_rla.up (by decide), ?_⟩
  refine ⟨_, t, p, l, rfl, hS, hR, hd, (by first | exact (zTd_fr hTd (fun c j h => rfl)) | (clear hQ; grind [xu])), hp, (by omega), (Eq.trans (b := ((-1) : Int)) hw (by omega)), hme, (by omega), (by first | exact hA1 | (clear hQ; grind [xu])), (by first | exact hc1 | (clear hQ; grind [xu])), (by first | exact hA2 | (clear hQ; grind [xu])), (by first | exact hc2 | (clear hQ; grind [xu])), ?_⟩
  intro I21o p21hp2 p21bhla p21bbfr
  refine hQ _ p21hp2 p21bhla (fun c j h0 h1 h2 h3 h4 => ((p21bbfr c j h0 h1 h2 h3 h4).trans rfl)))
def T_X_rf2 : ZT := fun args I L R S Q => ∃ (k : Nat) (t : List Int) (p : Nat), args = [zvr k] ∧ (zSh S) ∧ (zRs R) ∧ (zDy zT16 zF16 k R S) ∧ (zTd k t I) ∧ (I k 21 = p) ∧ (t.length ≤ 800) ∧ (I k 23 = -1) ∧ (I k 24 = 1) ∧ (p < t.length ∧ wAt t p = 84) ∧ (I k 35 = 1) ∧ (I (k + 1) 1 = 0) ∧ (dAt t (p + 1) (dNu 0)) ∧ ((p + 1 + (dNu 0).length) < t.length ∧ wAt t (p + 1 + (dNu 0).length) = 67) ∧ (dAt t ((p + 1 + (dNu 0).length) + 1) (dNu 300)) ∧ (((p + 1 + (dNu 0).length) + 1 + (dNu 300).length) < t.length ∧ wAt t ((p + 1 + (dNu 0).length) + 1 + (dNu 300).length) = 80) ∧ (((p + 1 + (dNu 0).length) + 1 + (dNu 300).length) + 1 < t.length ∧ wAt t (((p + 1 + (dNu 0).length) + 1 + (dNu 300).length) + 1) = 10) ∧ ∀ (I' : ZI) (L' : ZI), (I' k 21 = (((p + 1 + (dNu 0).length) + 1 + (dNu 300).length) + 2 : Nat)) → (I' k 24 = 1 ∧ I' (k + 1) 1 = 1 ∧ L' (k + 2) 10 = 300 ∧ I' (k + 3) 10 = 1) → (∀ c j : Nat, ¬ (c = k ∧ j = 21) → ¬ (c = k ∧ j = 24) → ¬ (c = k + 1 ∧ j = 1) → ¬ (c = k + 3 ∧ j = 10) → I' c j = I c j) → (∀ c j : Nat, ¬ (c = k + 2 ∧ j = 10) → L' c j = L c j) → Q none I' L' R S
theorem sn_X_rf2 : ZSnd 5 16 22 T_X_rf2 := ZSnd.of (zT16_22 4) (by
  rintro args I L R S Q hz ⟨k, t, p, rfl, hS, hR, hd, hTd, hp, ht8, hw, hme, h0, hhl, h1, hA1, hc1, hA2, hc2, hc3, hQ⟩
  have hk5 := hd.1
  obtain ⟨ht0, htt⟩ := id hTd
  refine And.intro rfl ?_
  refine And.intro (zDX hd 0 rfl) ⟨_, sn_X_now.up (by decide), ?_⟩
  refine ⟨_, t, p, rfl, hS, hR, hd, (by first | exact (zTd_fr hTd (fun c j h => rfl)) | (clear hQ; grind [xu])), hp, (by omega), (by omega), ?_⟩
  intro v1o p1hv p1bhv2
  have g1 : v1o = 84 := (by omega)
  refine And.intro ⟨(by omega), (zRb rfl)⟩ ⟨fun h8 => ?_, (fun h8 => False.elim (by omega))⟩
  refine And.intro ⟨(by omega), (zRb rfl)⟩ ⟨(fun h30 => False.elim (by omega)), fun h30 => ?_⟩
  refine And.intro (zDX hd 0 rfl) (zrd (v := 1) hhl ?_)
  refine And.intro (zRb rfl) (zbf rfl ?_)
  refine And.intro (zDX hd 0 rfl) ⟨_, sn_X_rto.up (by decide), ?_⟩
  refine ⟨_, t, p, rfl, hS, hR, hd, (by first | exact (zTd_fr hTd (fun c j h => rfl)) | (clear hQ; grind [xu])), hp, (by omega), (Eq.trans (b := ((-1) : Int)) hw (by omega)), hme, h1, (by first | exact hA1 | (clear hQ; grind [xu])), (by first | exact hc1 | (clear hQ; grind [xu])), (by first | exact hA2 | (clear hQ; grind [xu])), (by first | exact hc2 | (clear hQ; grind [xu])), (by first | exact hc3 | (clear hQ; grind [xu])), ?_⟩
  intro I41o L41o p41hp2 p41bhla p41bbfr p41bbbfrL
  refine hQ _ _ p41hp2 p41bhla (fun c j h0 h1 h2 h3 => ((p41bbfr c j h0 h1 (by omega) (by omega)).trans rfl)) (fun c j h0 => ((p41bbbfrL c j (by omega)).trans rfl)))
def T_X_rf3 : ZT := fun args I L R S Q => ∃ (k : Nat) (t : List Int) (p : Nat), args = [zvr k] ∧ (zSh S) ∧ (zRs R) ∧ (zDy zT16 zF16 k R S) ∧ (zTd k t I) ∧ (I k 21 = p) ∧ (t.length ≤ 800) ∧ (I k 23 = -1) ∧ (I k 24 = 1) ∧ (p < t.length ∧ wAt t p = 37) ∧ (I k 35 = 1) ∧ (p + 1 < t.length ∧ wAt t (p + 1) = 10) ∧ ∀ (I' : ZI), (I' k 21 = (p + 2 : Nat)) → (I' k 34 = 2) → (∀ c j : Nat, ¬ (c = k ∧ j = 21) → ¬ (c = k ∧ j = 34) → I' c j = I c j) → Q none I' L R S
theorem sn_X_rf3 : ZSnd 5 16 22 T_X_rf3 := ZSnd.of (zT16_22 4) (by
  rintro args I L R S Q hz ⟨k, t, p, rfl, hS, hR, hd, hTd, hp, ht8, hw, hme, h0, hhl, hc1, hQ⟩
  have hk5 := hd.1
  obtain ⟨ht0, htt⟩ := id hTd
  refine And.intro rfl ?_
  refine And.intro (zDX hd 0 rfl) ⟨_, sn_X_now.up (by decide), ?_⟩
  refine ⟨_, t, p, rfl, hS, hR, hd, (by first | exact (zTd_fr hTd (fun c j h => rfl)) | (clear hQ; grind [xu])), hp, (by omega), (by omega), ?_⟩
  intro v1o p1hv p1bhv2
  have g1 : v1o = 37 := (by omega)
  refine And.intro ⟨(by omega), (zRb rfl)⟩ ⟨fun h8 => ?_, (fun h8 => False.elim (by omega))⟩
  refine And.intro ⟨(by omega), (zRb rfl)⟩ ⟨fun h30 => ?_, (fun h30 => False.elim (by omega))⟩
  refine And.intro ⟨(by omega), (zRb rfl)⟩ ⟨(fun h50 => False.elim (by omega)), fun h50 => ?_⟩
  refine And.intro (zDX hd 0 rfl) (zrd (v := 1) hhl ?_)
  refine And.intro (zRb rfl) (zbf rfl ?_)
  refine And.intro (zDX hd 0 rfl) (zrd (v := p) hp ?_)
  refine And.intro (zDX hd 0 rfl) ⟨_, (zWi (by omega)), ?_⟩
  refine And.intro (zDX hd 0 rfl) ⟨_, sn_X_eol.up (by decide), ?_⟩
  refine ⟨_, t, (p + 1), rfl, hS, hR, hd, (by first | exact (zTd_fr hTd (fun c j h => (zxcj (by omega) rfl))) | (clear hQ; grind [xu])), (zxe.trans (by omega)), (by omega), (Eq.trans (b := ((-1) : Int)) (zxs (by decide) hw) (by omega)), (zxs (by decide) hme), (by omega), ?_⟩
  intro v71o I71o p71hv p71bhp2 p71bbfr
  refine And.intro (by omega) ⟨(fun h74 => False.elim (by omega)), fun h74 => ?_⟩
  refine And.intro (zDX hd 0 rfl) ⟨_, (zWi (zRb rfl)), ?_⟩
  refine hQ _ (zxs (by decide) (p71bhp2.trans (by omega))) zxe (fun c j h0 h1 => (zxcj h1 ((p71bbfr c j h0).trans (zxcj h0 rfl)))))
def T_X_rs1 : ZT := fun args I L R S Q => ∃ (k : Nat) (t : List Int) (p : Nat), args = [zvr k] ∧ (zSh S) ∧ (zRs R) ∧ (zDy zT16 zF16 k R S) ∧ (zTd k t I) ∧ (I k 21 = p) ∧ (t.length ≤ 800) ∧ (I k 23 = -1) ∧ (I k 24 = 1) ∧ (p < t.length ∧ wAt t p = 84) ∧ (I (k + 1) 1 = 1) ∧ (dAt t (p + 1) (dNu 0)) ∧ ((p + 1 + (dNu 0).length) < t.length ∧ wAt t (p + 1 + (dNu 0).length) = 10) ∧ ∀ (I' : ZI), (I' k 21 = ((p + 1 + (dNu 0).length) + 1 : Nat)) → (I' k 38 = 0 ∧ I' k 24 = 1) → (∀ c j : Nat, ¬ (c = k ∧ j = 21) → ¬ (c = k ∧ j = 24) → ¬ (c = k ∧ j = 38) → I' c j = I c j) → Q none I' L R S
theorem sn_X_rs1 : ZSnd 6 16 26 T_X_rs1 := ZSnd.of (zT16_26 5) (by
  rintro args I L R S Q hz ⟨k, t, p, rfl, hS, hR, hd, hTd, hp, ht8, hw, hme, h0, h1, hA1, hc1, hQ⟩
  have hk5 := hd.1
  obtain ⟨ht0, htt⟩ := id hTd
  have hd1 := dNu_1 (v := 0) (by omega)
  refine And.intro rfl ?_
  refine And.intro (zDX hd 0 rfl) ⟨_, sn_X_now.up (by decide), ?_⟩
  refine ⟨_, t, p, rfl, hS, hR, hd, (by first | exact (zTd_fr hTd (fun c j h => rfl)) | (clear hQ; grind [xu])), hp, (by omega), (by omega), ?_⟩
  intro v1o p1hv p1bhv2
  have g1 : v1o = 84 := (by omega)
  refine And.intro ⟨(by omega), (zRb rfl)⟩ ⟨(fun h8 => False.elim (by omega)), fun h8 => ?_⟩
  refine And.intro (zDX hd 0 rfl) (zrd (v := p) hp ?_)
  refine And.intro (zDX hd 0 rfl) ⟨_, (zWi (by omega)), ?_⟩
  refine And.intro (zDX hd 0 rfl) ⟨_, sn_X_who.up (by decide), ?_⟩
  refine ⟨_, t, (p + 1), 0, rfl, hS, hR, hd, (by first | exact (zTd_fr hTd (fun c j h => (zxcj (by omega) rfl))) | (clear hQ; grind [xu])), (zxe.trans (by omega)), (by omega), (Eq.trans (b := ((-1) : Int)) (zxs (by decide) hw) (by omega)), (by omega), hA1, (by clear hQ; grind [xu]), (fun q => by omega), ?_⟩
  intro v22o I22o p22hv p22bhp2 p22bbfr
  refine And.intro (zDX hd 0 rfl) (zrdR (v := some (k + 1)) (zDR hd 0 rfl) ?_)
  refine And.intro (zDP hd 1 rfl rfl (by omega) (by omega)) (zrd (v := 1) ((p22bbfr (k + 1) 1 (by omega)).trans (zxu (by omega) h1)) ?_)
  refine And.intro (zRb rfl) ?_
  refine ⟨_, _, ⟨zW6i (by omega), zW6i (zRL rfl)⟩, fun z35 c35 => ?_⟩
  refine And.intro c35.2.2 ⟨(fun h36 => False.elim (by omega)), fun h36 => ?_⟩
  refine And.intro (zDX hd 0 rfl) (Exists.intro _ (And.intro (zinl_ok (zT16_15 4)) (And.intro rfl ?_)))
  refine And.intro (zDX hd 0 rfl) (zrd (v := 1) ((p22bbfr k 24 (by omega)).trans (zxs (by decide) hme)) ?_)
  refine And.intro (zRb rfl) (zbf rfl ?_)
  refine And.intro (zRb rfl) (zbf rfl ?_)
  refine And.intro ⟨(zDX hd 0 rfl), (Or.inr rfl)⟩ ?_
  refine And.intro (zDX hd 0 rfl) ⟨_, sn_X_eol.up (by decide), ?_⟩
  refine ⟨_, t, (p + 1 + (dNu 0).length), rfl, hS, hR, hd, (by first | exact (zTd_fr hTd (fun c j h => (zxcj (by omega) ((p22bbfr c j (by omega)).trans (zxcj (by omega) rfl))))) | (clear hQ; grind [xu])), (zxs (by decide) p22bhp2), (by omega), (Eq.trans (b := ((-1) : Int)) (zxs (by decide) ((p22bbfr k 23 (by omega)).trans (zxs (by decide) hw))) (by omega)), zxe, (by omega), ?_⟩
  intro v48o I48o p48hv p48bhp2 p48bbfr
  refine And.intro (by omega) ⟨(fun h51 => False.elim (by omega)), fun h51 => ?_⟩
  refine ⟨_, (zWi (by omega)), ?_⟩
  refine And.intro (zDX hd 0 rfl) ⟨_, (zWi (by omega)), ?_⟩
  refine hQ _ (zxs (by decide) (p48bhp2.trans (by omega))) ⟨(by first | exact zxe | exact zxe.trans (by omega)), zxs (by decide) ((p48bbfr k 24 (by omega)).trans zxe)⟩ (fun c j h0 h1 h2 => (zxcj h2 ((p48bbfr c j h0).trans (zxcj h1 ((p22bbfr c j h0).trans (zxcj h0 rfl)))))))
def T_X_rs2 : ZT := fun args I L R S Q => ∃ (k : Nat) (t : List Int) (p : Nat) (x : Int) (y : Int) (n : Nat) (l : Int), args = [zvr k] ∧ (zSh S) ∧ (zRs R) ∧ (zDy zT16 zF16 k R S) ∧ (zTd k t I) ∧ (I k 21 = p) ∧ (t.length ≤ 800) ∧ (I k 23 = -1) ∧ (I k 24 = 1) ∧ (p < t.length ∧ wAt t p = 88) ∧ ((0 ≤ x ∧ x ≤ 15000) ∧ 0 ≤ y ∧ y ≤ 15000) ∧ (dAt t (p + 1) (dNu x)) ∧ ((p + 1 + (dNu x).length) < t.length ∧ wAt t (p + 1 + (dNu x).length) = 89) ∧ (dAt t ((p + 1 + (dNu x).length) + 1) (dNu y)) ∧ (((p + 1 + (dNu x).length) + 1 + (dNu y).length) < t.length ∧ wAt t ((p + 1 + (dNu x).length) + 1 + (dNu y).length) = 10) ∧ (I (k + 4) 1 = n) ∧ (n ≤ 59) ∧ (I k 38 = 0) ∧ ((I k 36 = l ∧ I k 37 = l + 1) ∧ 0 ≤ l ∧ l ≤ 6) ∧ ∀ (I' : ZI) (L' : ZI), (I' k 21 = (((p + 1 + (dNu x).length) + 1 + (dNu y).length) + 1 : Nat)) → (I' k 24 = 1) → (I' (k + 4) 1 = n + 1) → ((I' (k + 5) (60 + n) = 0 ∧ I' (k + 10) (60 + n) = l ∧ I' (k + 11) (60 + n) = l + 1 ∧ I' (k + 12) (60 + n) = 0) ∧ (L' (k + 6) (60 + n) = x ∧ L' (k + 7) (60 + n) = y) ∧ L' (k + 8) (60 + n) = x ∧ L' (k + 9) (60 + n) = y) → (∀ c j : Nat, ¬ (c = k ∧ j = 21) → ¬ (c = k ∧ j = 24) → ¬ (c = k + 4 ∧ j = 1) → ¬ (c = k + 5 ∧ j = 60 + n) → ¬ (c = k + 10 ∧ j = 60 + n) → ¬ (c = k + 11 ∧ j = 60 + n) → ¬ (c = k + 12 ∧ j = 60 + n) → I' c j = I c j) → (∀ c j : Nat, ¬ (c = k + 6 ∧ j = 60 + n) → ¬ (c = k + 7 ∧ j = 60 + n) → ¬ (c = k + 8 ∧ j = 60 + n) → ¬ (c = k + 9 ∧ j = 60 + n) → L' c j = L c j) → Q none I' L' R S
theorem sn_X_rs2 : ZSnd 6 16 26 T_X_rs2 := ZSnd.of (zT16_26 5) (by
  rintro args I L R S Q hz ⟨k, t, p, x, y, n, l, rfl, hS, hR, hd, hTd, hp, ht8, hw, hme, h0, hx, hA1, hc1, hA2, hc2, h4, hn9, hcu, hlr, hQ⟩
  have hk5 := hd.1
  obtain ⟨ht0, htt⟩ := id hTd
  refine And.intro rfl ?_
  refine And.intro (zDX hd 0 rfl) ⟨_, sn_X_now.up (by decide), ?_⟩
  refine ⟨_, t, p, rfl, hS, hR, hd, (by first | exact (zTd_fr hTd (fun c j h => rfl)) | (clear hQ; grind [xu])), hp, (by omega), (by omega), ?_⟩
  intro v1o p1hv p1bhv2
  have g1 : v1o = 88 := (by omega)
  refine And.intro ⟨(by omega), (zRb rfl)⟩ ⟨fun h8 => ?_, (fun h8 => False.elim (by omega))⟩
  refine And.intro ⟨(by omega), (zRb rfl)⟩ ⟨(fun h66 => False.elim (by omega)), fun h66 => ?_⟩
  refine And.intro (zDX hd 0 rfl) (zrd (v := 0) hcu ?_)
  refine And.intro ⟨(zRb rfl), (zRb rfl)⟩ (zbf rfl ?_)
  refine And.intro (zDX hd 0 rfl) ⟨_, sn_X_rhi.up (by decide), ?_⟩
  refine ⟨_, t, p, x, y, n, l, rfl, hS, hR, hd, (by first | exact (zTd_fr hTd (fun c j h => rfl)) | (clear hQ; grind [xu])), hp, (by omega), (Eq.trans (b := ((-1) : Int)) hw (by omega)), hme, (by first | exact hx | (clear hQ; grind [xu])), (by first | exact hA1 | (clear hQ; grind [xu])), (by first | exact hc1 | (clear hQ; grind [xu])), (by first | exact hA2 | (clear hQ; grind [xu])), (by first | exact hc2 | (clear hQ; grind [xu])), h4, (by omega), hcu, (by first | exact hlr | (clear hQ; grind [xu])), ?_⟩
  intro I78o L78o p78hp2 p78bhme2 p78bbh4b p78bbbhi p78bbbbfr p78bbbbbfrL
  refine hQ _ _ p78hp2 p78bhme2 p78bbh4b p78bbbhi (fun c j h0 h1 h2 h3 h4 h5 h6 => ((p78bbbbfr c j h0 h1 (by omega) (by omega) (by omega) (by omega) (by omega)).trans rfl)) (fun c j h0 h1 h2 h3 => ((p78bbbbbfrL c j (by omega) (by omega) (by omega) (by omega)).trans rfl)))
def T_X_rs3 : ZT := fun args I L R S Q => ∃ (k : Nat) (t : List Int) (p : Nat), args = [zvr k] ∧ (zSh S) ∧ (zRs R) ∧ (zDy zT16 zF16 k R S) ∧ (zTd k t I) ∧ (I k 21 = p) ∧ (t.length ≤ 800) ∧ (I k 23 = -1) ∧ (I k 24 = 1) ∧ (p < t.length ∧ wAt t p = 77) ∧ (p + 1 < t.length ∧ wAt t (p + 1) = 51) ∧ (p + 2 < t.length ∧ wAt t (p + 2) = 48) ∧ (p + 3 < t.length ∧ wAt t (p + 3) = 10) ∧ ∀ (I' : ZI), (I' k 21 = (p + 4 : Nat)) → (I' k 34 = 3) → (∀ c j : Nat, ¬ (c = k ∧ j = 21) → ¬ (c = k ∧ j = 34) → I' c j = I c j) → Q none I' L R S
theorem sn_X_rs3 : ZSnd 6 16 26 T_X_rs3 := ZSnd.of (zT16_26 5) (by
  rintro args I L R S Q hz ⟨k, t, p, rfl, hS, hR, hd, hTd, hp, ht8, hw, hme, h0, hc1, hc2, hc3, hQ⟩
  have hk5 := hd.1
  obtain ⟨ht0, htt⟩ := id hTd
  refine And.intro rfl ?_
  refine And.intro (zDX hd 0 rfl) ⟨_, sn_X_now.up (by decide), ?_⟩
  refine ⟨_, t, p, rfl, hS, hR, hd, (by first | exact (zTd_fr hTd (fun c j h => rfl)) | (clear hQ; grind [xu])), hp, (by omega), (by omega), ?_⟩
  intro v1o p1hv p1bhv2
  have g1 : v1o = 77 := (by omega)
  refine And.intro ⟨(by omega), (zRb rfl)⟩ ⟨fun h8 => ?_, (fun h8 => False.elim (by omega))⟩
  refine And.intro ⟨(by omega), (zRb rfl)⟩ ⟨fun h66 => ?_, (fun h66 => False.elim (by omega))⟩
  refine And.intro (zDX hd 0 rfl) ⟨_, sn_X_exp.up (by decide), ?_⟩
  refine ⟨_, t, p, (77 : Int), rfl, hS, hR, hd, (by first | exact (zTd_fr hTd (fun c j h => rfl)) | (clear hQ; grind [xu])), hp, (by omega), (Eq.trans (b := ((-1) : Int)) hw (by omega)), (by omega), (by omega), ?_⟩
  intro I87o p87hp2 p87bfr
  refine And.intro (zDX hd 0 rfl) ⟨_, sn_X_exp.up (by decide), ?_⟩
  refine ⟨_, t, (p + 1), (51 : Int), rfl, hS, hR, hd, (by first | exact (zTd_fr hTd (fun c j h => ((p87bfr c j (by omega)).trans rfl))) | (clear hQ; grind [xu])), (p87hp2.trans (by omega)), (by omega), (Eq.trans (b := ((-1) : Int)) ((p87bfr k 23 (by omega)).trans hw) (by omega)), (by omega), (by omega), ?_⟩
  intro I93o p93hp2 p93bfr
  refine And.intro (zDX hd 0 rfl) ⟨_, sn_X_exp.up (by decide), ?_⟩
  refine ⟨_, t, (p + 2), (48 : Int), rfl, hS, hR, hd, (by first | exact (zTd_fr hTd (fun c j h => ((p93bfr c j (by omega)).trans ((p87bfr c j (by omega)).trans rfl)))) | (clear hQ; grind [xu])), (p93hp2.trans (by omega)), (by omega), (Eq.trans (b := ((-1) : Int)) ((p93bfr k 23 (by omega)).trans ((p87bfr k 23 (by omega)).trans hw)) (by omega)), (by omega), (by omega), ?_⟩
  intro I99o p99hp2 p99bfr
  refine And.intro (zDX hd 0 rfl) ⟨_, sn_X_eol.up (by decide), ?_⟩
  refine ⟨_, t, (p + 3), rfl, hS, hR, hd, (by first | exact (zTd_fr hTd (fun c j h => ((p99bfr c j (by omega)).trans ((p93bfr c j (by omega)).trans ((p87bfr c j (by omega)).trans rfl))))) | (clear hQ; grind [xu])), (p99hp2.trans (by omega)), (by omega), (Eq.trans (b := ((-1) : Int)) ((p99bfr k 23 (by omega)).trans ((p93bfr k 23 (by omega)).trans ((p87bfr k 23 (by omega)).trans hw))) (by omega)), ((p99bfr k 24 (by omega)).trans ((p93bfr k 24 (by omega)).trans ((p87bfr k 24 (by omega)).trans hme))), (by omega), ?_⟩
  intro v103o I103o p103hv p103bhp2 p103bbfr
  refine And.intro (by omega) ⟨(fun h106 => False.elim (by omega)), fun h106 => ?_⟩
  refine And.intro (zDX hd 0 rfl) ⟨_, (zWi (zRb rfl)), ?_⟩
  refine hQ _ (zxs (by decide) (p103bhp2.trans (by omega))) zxe (fun c j h0 h1 => (zxcj h1 ((p103bbfr c j h0).trans ((p99bfr c j h0).trans ((p93bfr c j h0).trans ((p87bfr c j h0).trans rfl)))))))
