/-! xx -/
def T_X_num : ZT := fun args I L R S Q => ∃ (k : Nat) (t : List Int) (p : Nat) (u : Int), args = [zvr k] ∧ (zSh S) ∧ (zRs R) ∧ (zDy zT16 zF16 k R S) ∧ (zTd k t I) ∧ (I k 21 = p) ∧ (t.length ≤ 800) ∧ (I k 23 = -1) ∧ (0 ≤ u ∧ u ≤ 99999) ∧ (dAt t p (dNu u)) ∧ (p + (dNu u).length < t.length) ∧ (¬ (48 ≤ wAt t (p + (dNu u).length) ∧ wAt t (p + (dNu u).length) ≤ 57)) ∧ ∀ (v : Int) (I' : ZI), (v = u) → (I' k 21 = (p + (dNu u).length : Nat)) → (∀ c j : Nat, ¬ (c = k ∧ j = 21) → I' c j = I c j) → Q (some (zvl (v))) I' L R S
theorem sn_X_num : ZSnd 4 16 17 T_X_num := ZSnd.of (zT16_17 3) (by
  rintro args I L R S Q hz ⟨k, t, p, u, rfl, hS, hR, hd, hTd, hp, ht8, hw, hu, hA, hn, hn2, hQ⟩
  have hk5 := hd.1
  obtain ⟨ht0, htt⟩ := id hTd
  have hn1 := dNu_1 hu
  have h00 := dAt_0 hA (by omega)
  refine And.intro rfl ?_
  refine And.intro (zDX hd 0 rfl) ⟨_, sn_X_now.up (by decide), ?_⟩
  refine ⟨_, t, p, rfl, hS, hR, hd, (by first | exact (zTd_fr hTd (fun c j h => rfl)) | (clear hQ; grind [xu])), hp, (by omega), (by omega), ?_⟩
  intro v1o p1hv p1bhv2
  refine And.intro ⟨(by omega), (zRb rfl)⟩ ⟨fun h6 => ?_, fun h6 => ?_⟩
  · refine And.intro (zRb rfl) (zbt rfl ?_)
    refine And.intro (zDX hd 0 rfl) ⟨_, sn_X_who.up (by decide), ?_⟩
    refine ⟨_, t, p, _, rfl, hS, hR, hd, (by first | exact (zTd_fr hTd (fun c j h => rfl)) | (clear hQ; grind [xu])), hp, (by omega), (Eq.trans (b := ((-1) : Int)) hw (by omega)), (by omega), (by first | exact hA | (clear hQ; grind [xu])), (by first | exact hn | (clear hQ; grind [xu])), (by first | exact hn2 | (clear hQ; grind [xu])), ?_⟩
    intro v38o I38o p38hv p38bhp2 p38bbfr
    refine And.intro (zRb rfl) (zbt rfl ?_)
    refine hQ _ _ (by omega) p38bhp2 (fun c j h0 => ((p38bbfr c j h0).trans rfl))
  · exact False.elim (by omega))
def T_X_eol : ZT := fun args I L R S Q => ∃ (k : Nat) (t : List Int) (p : Nat), args = [zvr k] ∧ (zSh S) ∧ (zRs R) ∧ (zDy zT16 zF16 k R S) ∧ (zTd k t I) ∧ (I k 21 = p) ∧ (t.length ≤ 800) ∧ (I k 23 = -1) ∧ (I k 24 = 1) ∧ (p < t.length ∧ wAt t p = 10) ∧ ∀ (v : Int) (I' : ZI), (v = 1) → (I' k 21 = p + 1) → (∀ c j : Nat, ¬ (c = k ∧ j = 21) → I' c j = I c j) → Q (some (zvi (v))) I' L R S
theorem sn_X_eol : ZSnd 3 16 5 T_X_eol := ZSnd.of (zT16_5 2) (by
  rintro args I L R S Q hz ⟨k, t, p, rfl, hS, hR, hd, hTd, hp, ht8, hw, hme, hu, hQ⟩
  have hk5 := hd.1
  obtain ⟨ht0, htt⟩ := id hTd
  refine And.intro rfl ?_
  refine And.intro (zDX hd 0 rfl) ⟨_, sn_X_exp.up (by decide), ?_⟩
  refine ⟨_, t, p, (10 : Int), rfl, hS, hR, hd, (by first | exact (zTd_fr hTd (fun c j h => rfl)) | (clear hQ; grind [xu])), hp, (by omega), (Eq.trans (b := ((-1) : Int)) hw (by omega)), (by omega), (by omega), ?_⟩
  intro I3o p3hp2 p3bfr
  refine And.intro (zDX hd 0 rfl) (zrd (v := (-1)) ((p3bfr k 23 (by omega)).trans hw) ?_)
  refine And.intro ⟨(zRb rfl), (zRb rfl)⟩ (zbf rfl ?_)
  refine And.intro (zDX hd 0 rfl) (zrd (v := 1) ((p3bfr k 24 (by omega)).trans hme) ?_)
  refine And.intro (zRb rfl) (zbt rfl ?_)
  refine And.intro (zDX hd 0 rfl) (zrd (v := (-1)) ((p3bfr k 23 (by omega)).trans hw) ?_)
  refine And.intro ⟨(zRb rfl), (zRb rfl)⟩ (zbf rfl ?_)
  refine And.intro (Or.inr rfl) ?_
  refine hQ _ _ (by omega) p3hp2 (fun c j h0 => ((p3bfr c j h0).trans rfl)))
def T_X_rla : ZT := fun args I L R S Q => ∃ (k : Nat) (t : List Int) (p : Nat) (l : Int), args = [zvr k] ∧ (zSh S) ∧ (zRs R) ∧ (zDy zT16 zF16 k R S) ∧ (zTd k t I) ∧ (I k 21 = p) ∧ (t.length ≤ 800) ∧ (I k 23 = -1) ∧ (I k 24 = 1) ∧ (0 ≤ l ∧ l ≤ 6) ∧ (dAt t (p + 1) (dNu l)) ∧ ((p + 1 + (dNu l).length) < t.length ∧ wAt t (p + 1 + (dNu l).length) = 44) ∧ (dAt t ((p + 1 + (dNu l).length) + 1) (dNu (l + 1))) ∧ (((p + 1 + (dNu l).length) + 1 + (dNu (l + 1)).length) < t.length ∧ wAt t ((p + 1 + (dNu l).length) + 1 + (dNu (l + 1)).length) = 10) ∧ ∀ (I' : ZI), (I' k 21 = (((p + 1 + (dNu l).length) + 1 + (dNu (l + 1)).length) + 1 : Nat)) → (I' k 24 = 1 ∧ I' k 35 = 1 ∧ I' k 36 = l ∧ I' k 37 = l + 1) → (∀ c j : Nat, ¬ (c = k ∧ j = 21) → ¬ (c = k ∧ j = 24) → ¬ (c = k ∧ j = 35) → ¬ (c = k ∧ j = 36) → ¬ (c = k ∧ j = 37) → I' c j = I c j) → Q none I' L R S
theorem sn_X_rla : ZSnd 4 16 24 T_X_rla := ZSnd.of (zT16_24 3) (by
  rintro args I L R S Q hz ⟨k, t, p, l, rfl, hS, hR, hd, hTd, hp, ht8, hw, hme, hl, hA1, hc1, hA2, hc2, hQ⟩
  have hk5 := hd.1
  obtain ⟨ht0, htt⟩ := id hTd
  have hd1 := dNu_1 (v := l) (by omega)
  have hd2 := dNu_1 (v := l + 1) (by omega)
  refine And.intro rfl ?_
  refine And.intro (zDX hd 0 rfl) (zrd (v := p) hp ?_)
  refine And.intro (zDX hd 0 rfl) ⟨_, (zWi (by omega)), ?_⟩
  refine And.intro (zDX hd 0 rfl) ⟨_, sn_X_who.up (by decide), ?_⟩
  refine ⟨_, t, (p + 1), l, rfl, hS, hR, hd, (by first | exact (zTd_fr hTd (fun c j h => (zxcj (by omega) rfl))) | (clear hQ; grind [xu])), (zxe.trans (by omega)), (by omega), (Eq.trans (b := ((-1) : Int)) (zxs (by decide) hw) (by omega)), (by omega), hA1, (by clear hQ; grind [xu]), (fun q => by omega), ?_⟩
  intro v11o I11o p11hv p11bhp2 p11bbfr
  refine And.intro (zDX hd 0 rfl) ⟨_, sn_X_exp.up (by decide), ?_⟩
  refine ⟨_, t, (p + 1 + (dNu l).length), (44 : Int), rfl, hS, hR, hd, (by first | exact (zTd_fr hTd (fun c j h => ((p11bbfr c j (by omega)).trans (zxcj (by omega) rfl)))) | (clear hQ; grind [xu])), p11bhp2, (by omega), (Eq.trans (b := ((-1) : Int)) ((p11bbfr k 23 (by omega)).trans (zxs (by decide) hw)) (by omega)), (by omega), (by omega), ?_⟩
  intro I18o p18hp2 p18bfr
  refine And.intro (zDX hd 0 rfl) ⟨_, sn_X_who.up (by decide), ?_⟩
  refine ⟨_, t, ((p + 1 + (dNu l).length) + 1), (l + 1), rfl, hS, hR, hd, (by first | exact (zTd_fr hTd (fun c j h => ((p18bfr c j (by omega)).trans ((p11bbfr c j (by omega)).trans (zxcj (by omega) rfl))))) | (clear hQ; grind [xu])), (p18hp2.trans (by omega)), (by omega), (Eq.trans (b := ((-1) : Int)) ((p18bfr k 23 (by omega)).trans ((p11bbfr k 23 (by omega)).trans (zxs (by decide) hw))) (by omega)), (by omega), hA2, (by clear hQ; grind [xu]), (fun q => by omega), ?_⟩
  intro v22o I22o p22hv p22bhp2 p22bbfr
  refine Exists.intro _ (And.intro (zinl_ok (zT16_12 2)) (And.intro rfl ?_))
  refine ⟨_, _, ⟨zW6i (by omega), zW6i (zRL rfl)⟩, fun z2_28 c2_28 => ?_⟩
  refine And.intro c2_28.2.2 ⟨(fun h3_28 => False.elim (by omega)), fun h3_28 => ?_⟩
  refine ⟨_, _, ⟨zW6i (by omega), zW6i (zRL rfl)⟩, fun z10_28 c10_28 => ?_⟩
  refine And.intro c10_28.2.2 ⟨(fun h11_28 => False.elim (by omega)), fun h11_28 => ?_⟩
  refine And.intro (Or.inr rfl) ?_
  refine And.intro (zRb rfl) (zbf rfl ?_)
  refine Exists.intro _ (And.intro (zinl_ok (zT16_12 2)) (And.intro rfl ?_))
  refine ⟨_, _, ⟨zW6i (by omega), zW6i (zRL rfl)⟩, fun z2_35 c2_35 => ?_⟩
  refine And.intro c2_35.2.2 ⟨(fun h3_35 => False.elim (by omega)), fun h3_35 => ?_⟩
  refine ⟨_, _, ⟨zW6i (by omega), zW6i (zRL rfl)⟩, fun z10_35 c10_35 => ?_⟩
  refine And.intro c10_35.2.2 ⟨(fun h11_35 => False.elim (by omega)), fun h11_35 => ?_⟩
  refine And.intro (Or.inr rfl) ?_
  refine And.intro (zRb rfl) (zbf rfl ?_)
  refine ⟨_, _, ⟨zW6i (by omega), zW6i (by omega)⟩, fun z43 c43 => ?_⟩
  refine And.intro c43.2.2 ⟨(fun h44 => False.elim (by omega)), fun h44 => ?_⟩
  refine And.intro (zDX hd 0 rfl) (Exists.intro _ (And.intro (zinl_ok (zT16_15 2)) (And.intro rfl ?_)))
  refine And.intro (zDX hd 0 rfl) (zrd (v := 1) ((p22bbfr k 24 (by omega)).trans ((p18bfr k 24 (by omega)).trans ((p11bbfr k 24 (by omega)).trans (zxs (by decide) hme)))) ?_)
  refine And.intro (zRb rfl) (zbf rfl ?_)
  refine And.intro (zRb rfl) (zbf rfl ?_)
  refine And.intro ⟨(zDX hd 0 rfl), (Or.inr rfl)⟩ ?_
  refine And.intro (zDX hd 0 rfl) ⟨_, sn_X_eol.up (by decide), ?_⟩
  refine ⟨_, t, ((p + 1 + (dNu l).length) + 1 + (dNu (l + 1)).length), rfl, hS, hR, hd, (by first | exact (zTd_fr hTd (fun c j h => (zxcj (by omega) ((p22bbfr c j (by omega)).trans ((p18bfr c j (by omega)).trans ((p11bbfr c j (by omega)).trans (zxcj (by omega) rfl))))))) | (clear hQ; grind [xu])), (by first | exact p22bhp2 | exact zxs (by decide) p22bhp2), (by omega), (Eq.trans (b := ((-1) : Int)) (zxs (by decide) ((p22bbfr k 23 (by omega)).trans ((p18bfr k 23 (by omega)).trans ((p11bbfr k 23 (by omega)).trans (zxs (by decide) hw))))) (by omega)), zxe, (by omega), ?_⟩
  intro v56o I56o p56hv p56bhp2 p56bbfr
  refine And.intro (by omega) ⟨fun h59 => ?_, (fun h59 => False.elim (by omega))⟩
  refine And.intro ⟨(zDX hd 0 rfl), (Or.inr rfl)⟩ ?_
  refine ⟨_, (zWi (by omega)), ?_⟩
  refine And.intro (zDX hd 0 rfl) ⟨_, (zWi (by omega)), ?_⟩
  refine ⟨_, (zWi (by omega)), ?_⟩
  refine And.intro (zDX hd 0 rfl) ⟨_, (zWi (by omega)), ?_⟩
  refine hQ _ (zxs (by decide) (zxs (by decide) (zxs (by decide) (p56bhp2.trans (by omega))))) ⟨zxs (by decide) (zxs (by decide) (zxs (by decide) ((p56bbfr k 24 (by omega)).trans zxe))), zxs (by decide) (zxs (by decide) zxe), zxs (by decide) (by first | exact zxe | exact zxe.trans (by omega)), (by first | exact zxe | exact zxe.trans (by omega))⟩ (fun c j h0 h1 h2 h3 h4 => (zxcj h4 (zxcj h3 (zxcj h2 ((p56bbfr c j h0).trans (zxcj h1 ((p22bbfr c j h0).trans ((p18bfr c j h0).trans ((p11bbfr c j h0).trans (zxcj h0 rfl)))))))))))
