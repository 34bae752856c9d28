/-! uu -/
def T_Z_rel0 : ZT := fun args I L R S Q => args = [zvr 40] ∧ (zSh S) ∧ (zRs R) ∧ (I 40 14 = 0) ∧ ∀ (I' : ZI), (I' 40 3 = 3) → (∀ c j : Nat, ¬ (c = 40 ∧ j = 3) → I' c j = I c j) → Q (some (zvi (-1))) I' L R S
theorem sn_Z_rel0 : ZSnd 29 11 36 T_Z_rel0 := ZSnd.of (zT11_36 28) (by
  rintro args I L R S Q hz ⟨rfl, hS, hR, hm, hQ⟩
  refine And.intro rfl ?_
  refine And.intro (zA_40 hS) (zrd (v := 0) hm ?_)
  refine And.intro (zRb rfl) (zbf rfl ?_)
  refine And.intro (zA_40 hS) (Exists.intro _ (And.intro (zinl_ok (zT11_1 27)) (And.intro rfl ?_)))
  refine And.intro (zRb rfl) (zbf rfl ?_)
  refine And.intro (zA_40 hS) ⟨_, (zWi (zRb rfl)), ?_⟩
  refine And.intro (zRb rfl) (zbf rfl ?_)
  refine hQ _ zxe (fun c j h0 => (zxcj h0 rfl)))
def T_Z_rel : ZT := fun args I L R S Q => ∃ (k : Nat) (w : List CuR) (pc : Nat) (nr : Nat) (rf : Nat → Nat → Int) (bn : Int) (al : Int) (m : Nat) (ww : List Int) (D : DtT) (er : Int × Int × Int) (e : Int) (cn : Nat) (t : Nat → Nat → Int) (n : Nat → Nat), args = [zvr 40] ∧ (zSh S) ∧ (zRs R) ∧ (I 40 14 = m) ∧ (1 ≤ m ∧ m ≤ 10) ∧ (R 40 12 = some k) ∧ (zDy zT1 zF1 k R S) ∧ (k = 106 ∨ k = 118) ∧ (zSt I L) ∧ (zUC k w pc nr rf bn al I) ∧ (scA ww D er I L R) ∧ (zRA cn t n I) ∧ (al = 0 ∨ al = 1) ∧ (e = (if al = 1 ∧ ((cuAA w pc).length : Int) = 0 ∧ (cuSc w pc : Int) = 0 ∧ viN (cuAl w nr rf) = 0 then (1 : Int) else 0)) ∧ ∀ (v : Int) (I' : ZI), (v = if 0 ≤ (rlV cn (dTx w 0).length (scDu ww D e)) then (rlV cn (dTx w 0).length (scDu ww D e)) else -1) → (I' 40 3 = if 0 ≤ (rlV cn (dTx w 0).length (scDu ww D e)) then 0 else -(rlV cn (dTx w 0).length (scDu ww D e))) → (if 0 ≤ (rlV cn (dTx w 0).length (scDu ww D e)) then zRA (cn + 1) (upF t cn (wAt (dTx w 0))) (upF n cn (dTx w 0).length) I' ∧ (∀ p : Nat, p < 16 → I' 158 (16 * cn + p) = -1) ∧ I' 159 cn = 0 else zRA cn t n I' ∧ I' 154 0 = cn ∧ (∀ c j : Nat, 155 ≤ c ∧ c ≤ 159 → I' c j = I c j)) → (∀ c j : Nat, ¬ (c = 138 ∧ j = 16) → ¬ (c = 138 ∧ j = 17) → ¬ (c = k ∧ j = 17) → ¬ c = k + 11 → ¬ (c = 154 ∧ j = 0) → ¬ (c = 155 ∧ 512 * cn ≤ j) → ¬ (c = 156 ∧ j = cn) → ¬ (c = 157 ∧ 480 * cn ≤ j) → ¬ (c = 158 ∧ 16 * cn ≤ j) → ¬ (c = 159 ∧ j = cn) → ¬ c = 160 → ¬ c = 161 → ¬ c = 162 → ¬ c = 163 → ¬ (c = 154 ∧ j = 8) → ¬ (c = 40 ∧ j = 3) → I' c j = I c j) → Q (some (zvi (v))) I' L R S
theorem sn_Z_rel : ZSnd 30 11 36 T_Z_rel := ZSnd.of (zT11_36 29) (by
  rintro args I L R S Q hz ⟨k, w, pc, nr, rf, bn, al, m, ww, D, er, e, cn, t, n, rfl, hS, hR, hm, hm1, hl, hD, hk, hT, hUC, hA, hRA, hal, he, hQ⟩
  have hk106 : 106 ≤ k := by omega
  have hk118 : k ≤ 118 := by omega
  obtain ⟨⟨⟨u0, u3, u4⟩, ul, uG, uq, uh, ua⟩, uw, up, uaa, u9, ⟨uf, ust, u11⟩, uhh, uo⟩ := id hUC
  have hn11 := zUC_n hUC
  have hz11 := hz.1 k 11
  rw [hn11] at hz11
  have hz9 := hz.1 k 9
  rw [u9] at hz9
  have hcn := hRA.2.1
  have hdu := adN_b (f := scDj ww D) (Or.inr rfl : (1 : Int) = 0 ∨ (1 : Int) = 1) D.2.2.1
  have hdu0 := adN_e0 (f := scDj ww D) D.2.2.1
  refine And.intro rfl ?_
  refine And.intro (zA_40 hS) (zrd (v := m) hm ?_)
  refine And.intro (by omega) ⟨fun h4 => ?_, (fun h4 => False.elim (by omega))⟩
  refine And.intro (zA_40 hS) (zrdR (v := some k) hl ?_)
  refine And.intro (zDX hD 0 rfl) ⟨_, sn_U_exa.up (by decide), ?_⟩
  refine ⟨k, al, (cuAA w pc).length, (cuSc w pc), (viN (cuAl w nr rf)), rfl, hS, hR, hD, (by first | exact hk | (clear hQ; grind [xu])), ⟨u3, hal⟩, uaa.2.1, u9, hn11, (by omega), ?_⟩
  intro v18o p18hv
  have g18 : v18o = (if al = 1 ∧ ((cuAA w pc).length : Int) = 0 ∧ (cuSc w pc : Int) = 0 ∧ viN (cuAl w nr rf) = 0 then (1 : Int) else 0) := p18hv
  have g18b : v18o = 0 ∨ v18o = 1 := (by rw [p18hv]; by_cases q : al = 1 ∧ ((cuAA w pc).length : Int) = 0 ∧ (cuSc w pc : Int) = 0 ∧ viN (cuAl w nr rf) = 0; (rw [if_pos q]; exact Or.inr rfl); (rw [if_neg q]; exact Or.inl rfl))
  refine And.intro (by omega) ⟨fun h21 => ?_, fun h21 => ?_⟩
  · have t21 : scDu ww D e = 0 := (by have e1 : e = 0 := he.trans (g18.symm.trans (by omega)); rw [e1]; exact hdu0)
    refine And.intro (zA_40 hS) (zrdR (v := some 154) (zR_40_19 hR) ?_)
    refine And.intro (zA_40 hS) (zrdR (v := some k) hl ?_)
    refine And.intro (zA_154 hS) ⟨_, sn_A_radd.up (by decide), ?_⟩
    refine ⟨k, w, pc, nr, rf, bn, al, (0 : Int), cn, t, n, rfl, hS, hR, (zStf hT (fun c j h h2 => ⟨rfl, rfl⟩)), hD, (by first | exact hk | (clear hQ; grind [xu])), (zUC_fr hUC (fun c j h => rfl)), (by clear hQ; grind [xu]), (zRA_fr hRA (fun c j h => rfl)), ?_⟩
    intro v50o I50o p50hv p50bhRA2 p50bbfr
    have g50 : v50o = (rlV cn (dTx w 0).length (scDu ww D e)) := (p50hv.trans (by first | rw [t31] | rw [t21]))
    have g50b : -5 ≤ v50o ∧ v50o ≤ 10 := (by rw [p50hv]; unfold rlV; split; omega; split; omega; omega)
    refine And.intro (zA_40 hS) (Exists.intro _ (And.intro (zinl_ok (zT11_1 28)) (And.intro rfl ?_)))
    refine And.intro (by omega) ⟨fun h2_53 => ?_, fun h2_53 => ?_⟩
    · refine And.intro (zA_40 hS) ⟨_, (zWi (zRb rfl)), ?_⟩
      refine And.intro (by omega) ⟨fun h15_53 => ?_, (fun h15_53 => False.elim (by omega))⟩
      refine hQ _ _ ?_ ?_ ?_ (fun c j h0 h1 h2 h3 h4 h5 h6 h7 h8 h9 h10 h11 h12 h13 h14 h15 => (zxcj h15 ((p50bbfr c j h2 h3 h4 h5 h6 h7 h8 h9 h10 h11 h12 h13 h14).trans rfl)))
      · rw [← g50]
        first
        | rw [if_pos (by omega)]
        | rw [if_neg (by omega)]
      · rw [← g50]
        first
        | (rw [if_pos (by omega)]; exact zxe)
        | (rw [if_neg (by omega)]; exact zxe)
      · rw [← g50]
        have z9 := p50bhRA2
        rw [← p50hv] at z9
        first
        | (rw [if_pos (by omega)] at z9 ⊢
           exact ⟨zRA_fr z9.1 (fun c j h => zxcj (by omega) rfl), fun p hp => zxcj (by omega) (z9.2.1 p hp), zxcj (by omega) z9.2.2⟩)
        | (rw [if_neg (by omega)] at z9 ⊢
           exact ⟨zRA_fr z9.1 (fun c j h => zxcj (by omega) rfl), zxcj (by omega) z9.2.1, fun c j h => (zxcj (by omega) ((z9.2.2 c j h).trans (by first | exact rfl | exact p28bfr c j (by omega) (by omega))))⟩)
    · refine And.intro (zA_40 hS) ⟨_, (zWi (by omega)), ?_⟩
      refine And.intro (by omega) ⟨(fun h15_53 => False.elim (by omega)), fun h15_53 => ?_⟩
      refine hQ _ _ ?_ ?_ ?_ (fun c j h0 h1 h2 h3 h4 h5 h6 h7 h8 h9 h10 h11 h12 h13 h14 h15 => (zxcj h15 ((p50bbfr c j h2 h3 h4 h5 h6 h7 h8 h9 h10 h11 h12 h13 h14).trans rfl)))
      · rw [← g50]
        first
        | rw [if_pos (by omega)]
        | rw [if_neg (by omega)]
      · rw [← g50]
        first
        | (rw [if_pos (by omega)]; exact zxe)
        | (rw [if_neg (by omega)]; exact zxe)
      · rw [← g50]
        have z9 := p50bhRA2
        rw [← p50hv] at z9
        first
        | (rw [if_pos (by omega)] at z9 ⊢
           exact ⟨zRA_fr z9.1 (fun c j h => zxcj (by omega) rfl), fun p hp => zxcj (by omega) (z9.2.1 p hp), zxcj (by omega) z9.2.2⟩)
        | (rw [if_neg (by omega)] at z9 ⊢
           exact ⟨zRA_fr z9.1 (fun c j h => zxcj (by omega) rfl), zxcj (by omega) z9.2.1, fun c j h => (zxcj (by omega) ((z9.2.2 c j h).trans (by first | exact rfl | exact p28bfr c j (by omega) (by omega))))⟩)
  · refine And.intro (zA_40 hS) (zrdR (v := some 138) (zR_40_17 hR) ?_)
    refine And.intro (zA_138 hS) ⟨_, sn_E_adh.up (by decide), ?_⟩
    refine ⟨ww, D, er, rfl, hS, hR, hA, ?_⟩
    intro v28o I28o p28hv p28bfr
    have g28 : v28o = 0 ∨ v28o = 1 := (by rw [p28hv]; exact hdu)
    refine And.intro (by omega) ⟨fun h31 => ?_, fun h31 => ?_⟩
    · have t31 : scDu ww D e = 0 := (by have e1 : e = 1 := he.trans (g18.symm.trans (by omega)); have z := p28hv; rw [e1]; unfold scDu at z ⊢; omega)
      refine And.intro (zA_40 hS) (zrdR (v := some 154) (zR_40_19 hR) ?_)
      refine And.intro (zA_40 hS) (zrdR (v := some k) hl ?_)
      refine And.intro (zA_154 hS) ⟨_, sn_A_radd.up (by decide), ?_⟩
      refine ⟨k, w, pc, nr, rf, bn, al, (0 : Int), cn, t, n, rfl, hS, hR, (zStf hT (fun c j h h2 => ⟨((p28bfr c j (by omega) (by omega)).trans rfl), rfl⟩)), hD, (by first | exact hk | (clear hQ; grind [xu])), (zUC_fr hUC (fun c j h => ((p28bfr c j (by omega) (by omega)).trans rfl))), (by clear hQ; grind [xu]), (zRA_fr hRA (fun c j h => ((p28bfr c j (by omega) (by omega)).trans rfl))), ?_⟩
      intro v50o I50o p50hv p50bhRA2 p50bbfr
      have g50 : v50o = (rlV cn (dTx w 0).length (scDu ww D e)) := (p50hv.trans (by first | rw [t31] | rw [t21]))
      have g50b : -5 ≤ v50o ∧ v50o ≤ 10 := (by rw [p50hv]; unfold rlV; split; omega; split; omega; omega)
      refine And.intro (zA_40 hS) (Exists.intro _ (And.intro (zinl_ok (zT11_1 28)) (And.intro rfl ?_)))
      refine And.intro (by omega) ⟨fun h2_53 => ?_, fun h2_53 => ?_⟩
      · refine And.intro (zA_40 hS) ⟨_, (zWi (zRb rfl)), ?_⟩
        refine And.intro (by omega) ⟨fun h15_53 => ?_, (fun h15_53 => False.elim (by omega))⟩
        refine hQ _ _ ?_ ?_ ?_ (fun c j h0 h1 h2 h3 h4 h5 h6 h7 h8 h9 h10 h11 h12 h13 h14 h15 => (zxcj h15 ((p50bbfr c j h2 h3 h4 h5 h6 h7 h8 h9 h10 h11 h12 h13 h14).trans ((p28bfr c j h0 h1).trans rfl))))
        · rw [← g50]
          first
          | rw [if_pos (by omega)]
          | rw [if_neg (by omega)]
        · rw [← g50]
          first
          | (rw [if_pos (by omega)]; exact zxe)
          | (rw [if_neg (by omega)]; exact zxe)
        · rw [← g50]
          have z9 := p50bhRA2
          rw [← p50hv] at z9
          first
          | (rw [if_pos (by omega)] at z9 ⊢
             exact ⟨zRA_fr z9.1 (fun c j h => zxcj (by omega) rfl), fun p hp => zxcj (by omega) (z9.2.1 p hp), zxcj (by omega) z9.2.2⟩)
          | (rw [if_neg (by omega)] at z9 ⊢
             exact ⟨zRA_fr z9.1 (fun c j h => zxcj (by omega) rfl), zxcj (by omega) z9.2.1, fun c j h => (zxcj (by omega) ((z9.2.2 c j h).trans (by first | exact rfl | exact p28bfr c j (by omega) (by omega))))⟩)
      · refine And.intro (zA_40 hS) ⟨_, (zWi (by omega)), ?_⟩
        refine And.intro (by omega) ⟨(fun h15_53 => False.elim (by omega)), fun h15_53 => ?_⟩
        refine hQ _ _ ?_ ?_ ?_ (fun c j h0 h1 h2 h3 h4 h5 h6 h7 h8 h9 h10 h11 h12 h13 h14 h15 => (zxcj h15 ((p50bbfr c j h2 h3 h4 h5 h6 h7 h8 h9 h10 h11 h12 h13 h14).trans ((p28bfr c j h0 h1).trans rfl))))
        · rw [← g50]
          first
          | rw [if_pos (by omega)]
          | rw [if_neg (by omega)]
        · rw [← g50]
          first
          | (rw [if_pos (by omega)]; exact zxe)
          | (rw [if_neg (by omega)]; exact zxe)
        · rw [← g50]
          have z9 := p50bhRA2
          rw [← p50hv] at z9
          first
          | (rw [if_pos (by omega)] at z9 ⊢
             exact ⟨zRA_fr z9.1 (fun c j h => zxcj (by omega) rfl), fun p hp => zxcj (by omega) (z9.2.1 p hp), zxcj (by omega) z9.2.2⟩)
          | (rw [if_neg (by omega)] at z9 ⊢
             exact ⟨zRA_fr z9.1 (fun c j h => zxcj (by omega) rfl), zxcj (by omega) z9.2.1, fun c j h => (zxcj (by omega) ((z9.2.2 c j h).trans (by first | exact rfl | exact p28bfr c j (by omega) (by omega))))⟩)
    · have t31 : scDu ww D e = 1 := (by have e1 : e = 1 := he.trans (g18.symm.trans (by omega)); have z := p28hv; rw [e1]; unfold scDu at z ⊢; omega)
      refine And.intro (zA_40 hS) (zrdR (v := some 154) (zR_40_19 hR) ?_)
      refine And.intro (zA_40 hS) (zrdR (v := some k) hl ?_)
      refine And.intro (zA_154 hS) ⟨_, sn_A_radd.up (by decide), ?_⟩
      refine ⟨k, w, pc, nr, rf, bn, al, (1 : Int), cn, t, n, rfl, hS, hR, (zStf hT (fun c j h h2 => ⟨((p28bfr c j (by omega) (by omega)).trans rfl), rfl⟩)), hD, (by first | exact hk | (clear hQ; grind [xu])), (zUC_fr hUC (fun c j h => ((p28bfr c j (by omega) (by omega)).trans rfl))), (by clear hQ; grind [xu]), (zRA_fr hRA (fun c j h => ((p28bfr c j (by omega) (by omega)).trans rfl))), ?_⟩
      intro v50o I50o p50hv p50bhRA2 p50bbfr
      have g50 : v50o = (rlV cn (dTx w 0).length (scDu ww D e)) := (p50hv.trans (by first | rw [t31] | rw [t21]))
      have g50b : -5 ≤ v50o ∧ v50o ≤ 10 := (by rw [p50hv]; unfold rlV; split; omega; split; omega; omega)
      refine And.intro (zA_40 hS) (Exists.intro _ (And.intro (zinl_ok (zT11_1 28)) (And.intro rfl ?_)))
      refine And.intro (by omega) ⟨fun h2_53 => ?_, fun h2_53 => ?_⟩
      · refine And.intro (zA_40 hS) ⟨_, (zWi (zRb rfl)), ?_⟩
        refine And.intro (by omega) ⟨fun h15_53 => ?_, (fun h15_53 => False.elim (by omega))⟩
        refine hQ _ _ ?_ ?_ ?_ (fun c j h0 h1 h2 h3 h4 h5 h6 h7 h8 h9 h10 h11 h12 h13 h14 h15 => (zxcj h15 ((p50bbfr c j h2 h3 h4 h5 h6 h7 h8 h9 h10 h11 h12 h13 h14).trans ((p28bfr c j h0 h1).trans rfl))))
        · rw [← g50]
          first
          | rw [if_pos (by omega)]
          | rw [if_neg (by omega)]
        · rw [← g50]
          first
          | (rw [if_pos (by omega)]; exact zxe)
          | (rw [if_neg (by omega)]; exact zxe)
        · rw [← g50]
          have z9 := p50bhRA2
          rw [← p50hv] at z9
          first
          | (rw [if_pos (by omega)] at z9 ⊢
             exact ⟨zRA_fr z9.1 (fun c j h => zxcj (by omega) rfl), fun p hp => zxcj (by omega) (z9.2.1 p hp), zxcj (by omega) z9.2.2⟩)
          | (rw [if_neg (by omega)] at z9 ⊢
             exact ⟨zRA_fr z9.1 (fun c j h => zxcj (by omega) rfl), zxcj (by omega) z9.2.1, fun c j h => (zxcj (by omega) ((z9.2.2 c j h).trans (by first | exact rfl | exact p28bfr c j (by omega) (by omega))))⟩)
      · refine And.intro (zA_40 hS) ⟨_, (zWi (by omega)), ?_⟩
        refine And.intro (by omega) ⟨(fun h15_53 => False.elim (by omega)), fun h15_53 => ?_⟩
        refine hQ _ _ ?_ ?_ ?_ (fun c j h0 h1 h2 h3 h4 h5 h6 h7 h8 h9 h10 h11 h12 h13 h14 h15 => (zxcj h15 ((p50bbfr c j h2 h3 h4 h5 h6 h7 h8 h9 h10 h11 h12 h13 h14).trans ((p28bfr c j h0 h1).trans rfl))))
        · rw [← g50]
          first
          | rw [if_pos (by omega)]
          | rw [if_neg (by omega)]
        · rw [← g50]
          first
          | (rw [if_pos (by omega)]; exact zxe)
          | (rw [if_neg (by omega)]; exact zxe)
        · rw [← g50]
          have z9 := p50bhRA2
          rw [← p50hv] at z9
          first
          | (rw [if_pos (by omega)] at z9 ⊢
             exact ⟨zRA_fr z9.1 (fun c j h => zxcj (by omega) rfl), fun p hp => zxcj (by omega) (z9.2.1 p hp), zxcj (by omega) z9.2.2⟩)
          | (rw [if_neg (by omega)] at z9 ⊢
             exact ⟨zRA_fr z9.1 (fun c j h => zxcj (by omega) rfl), zxcj (by omega) z9.2.1, fun c j h => (zxcj (by omega) ((z9.2.2 c j h).trans (by first | exact rfl | exact p28bfr c j (by omega) (by omega))))⟩))
