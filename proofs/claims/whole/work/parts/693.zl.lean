/-! zl -/
def T_A_keep0 : ZT := fun args I L R S Q => args = [zvr 145, zvr 82] ∧ (zSh S) ∧ (zRs R) ∧ (I 82 0 = -1) ∧ Q (some (zvi (-3))) I L R S
theorem sn_A_keep0 : ZSnd 6 10 12 T_A_keep0 := ZSnd.of (zT10_12 5) (by
  rintro args I L R S Q hz ⟨rfl, hS, hR, hb0, hQ⟩
  refine And.intro rfl ?_
  refine And.intro (zA_82 hS) (zrd (v := (-1)) hb0 ?_)
  refine And.intro ⟨(zRb rfl), (zRb rfl)⟩ (zbt rfl ?_)
  refine hQ )
def T_A_ptb0 : ZT := fun args I L R S Q => ∃ (e : Int), args = [zvr 145, zvi e, zvr 82] ∧ (zSh S) ∧ (zRs R) ∧ (I 82 0 = -1) ∧ Q (some (zvi (-3))) I L R S
theorem sn_A_ptb0 : ZSnd 4 10 14 T_A_ptb0 := ZSnd.of (zT10_14 3) (by
  rintro args I L R S Q hz ⟨e, rfl, hS, hR, hb0, hQ⟩
  refine And.intro rfl ?_
  refine And.intro (zA_82 hS) (zrd (v := (-1)) hb0 ?_)
  refine And.intro ⟨(zRb rfl), (zRb rfl)⟩ (zbt rfl ?_)
  refine hQ )
def T_Z_sav : ZT := fun args I L R S Q => ∃ (x : SvK) (cr : Nat) (cn : Nat) (b : Nat) (s : BdS), args = [zvr 40] ∧ (zSh S) ∧ (zRs R) ∧ (zBA b s I L) ∧ (bGd s) ∧ (zCL x.1 x.2.1 x.2.2.1 x.2.2.2 cr cn I) ∧ ∀ (v : Int) (I' : ZI), (v = if 0 ≤ (svV b cr s x) then (svV b cr s x) else -1) → (I' 40 3 = if 0 ≤ (svV b cr s x) then 0 else -(svV b cr s x)) → (if 0 ≤ svV b cr s x then zCL (svE s x).1 (svE s x).2.1 (svE s x).2.2.1 (svE s x).2.2.2 0 cn I' else zCL x.1 x.2.1 x.2.2.1 x.2.2.2 cr cn I') → (∀ c j : Nat, ¬ c = 146 → ¬ c = 147 → ¬ c = 148 → ¬ c = 149 → ¬ c = 150 → ¬ c = 151 → ¬ c = 152 → ¬ (c = 145 ∧ j = 5) → ¬ (c = 145 ∧ j = 9) → ¬ (c = 145 ∧ j = 1) → ¬ c = 153 → ¬ (c = 40 ∧ j = 3) → I' c j = I c j) → Q (some (zvi (v))) I' L R S
theorem sn_Z_sav : ZSnd 7 11 44 T_Z_sav := ZSnd.of (zT11_44 6) (by
  rintro args I L R S Q hz ⟨x, cr, cn, b, s, rfl, hS, hR, hBA, hGd, hCL, hQ⟩
  refine And.intro rfl ?_
  refine And.intro (zA_40 hS) (zrdR (v := some 145) (zR_40_18 hR) ?_)
  refine And.intro (zA_40 hS) (zrdR (v := some 82) (zR_40_9 hR) ?_)
  refine And.intro (zA_145 hS) ⟨_, sn_A_keep.up (by decide), ?_⟩
  refine ⟨x, cr, cn, b, s, rfl, hS, hR, (by first | exact (zBA_fr hBA (fun c j h => rfl) (fun c j h => rfl)) | (clear hQ; grind [xu])), (by first | exact hGd | (clear hQ; grind [xu])), (by first | exact (zCL_fr hCL (fun c j h => rfl)) | (clear hQ; grind [xu])), ?_⟩
  intro v9o I9o p9hv p9bhCL2 p9bbfr
  have g9 : -4 ≤ v9o ∧ v9o ≤ 1000 := (by rw [p9hv]; have z9 := svV_b (b := b) (cr := cr) (s := s) (x := x); have z8 := (show sV x.2.2.1 ≤ 12 from by have w := stN_G hCL.2.2.2.2.1.2.2.2.1; rw [← hCL.2.2.2.2.1.2.2.1] at w; exact w.1.2.1); omega)
  refine And.intro (zA_40 hS) (Exists.intro _ (And.intro (zinl_ok (zT11_1 5)) (And.intro rfl ?_)))
  refine And.intro (by omega) ⟨fun h2_12 => ?_, fun h2_12 => ?_⟩
  · refine And.intro (zA_40 hS) ⟨_, (zWi (zRb rfl)), ?_⟩
    refine And.intro (by omega) ⟨fun h15_12 => ?_, (fun h15_12 => False.elim (by omega))⟩
    refine hQ _ _ ?_ ?_ ?_ (fun c j h0 h1 h2 h3 h4 h5 h6 h7 h8 h9 h10 h11 => (zxcj h11 ((p9bbfr c j h0 h1 h2 h3 h4 h5 h6 h7 h8 h9 h10).trans rfl)))
    · rw [← p9hv]
      first
      | rw [if_pos (by omega)]
      | rw [if_neg (by omega)]
    · rw [← p9hv]
      first
      | (rw [if_pos (by omega)]; exact zxe)
      | (rw [if_neg (by omega)]; exact zxe)
    · have z9 := p9bhCL2
      split at z9
      · rw [if_pos (by assumption)]
        exact zCL_fr z9 (fun c j h => zxcj (by omega) rfl)
      · rw [if_neg (by assumption)]
        exact zCL_fr z9 (fun c j h => zxcj (by omega) rfl)
  · refine And.intro (zA_40 hS) ⟨_, (zWi (by omega)), ?_⟩
    refine And.intro (by omega) ⟨(fun h15_12 => False.elim (by omega)), fun h15_12 => ?_⟩
    refine hQ _ _ ?_ ?_ ?_ (fun c j h0 h1 h2 h3 h4 h5 h6 h7 h8 h9 h10 h11 => (zxcj h11 ((p9bbfr c j h0 h1 h2 h3 h4 h5 h6 h7 h8 h9 h10).trans rfl)))
    · rw [← p9hv]
      first
      | rw [if_pos (by omega)]
      | rw [if_neg (by omega)]
    · rw [← p9hv]
      first
      | (rw [if_pos (by omega)]; exact zxe)
      | (rw [if_neg (by omega)]; exact zxe)
    · have z9 := p9bhCL2
      split at z9
      · rw [if_pos (by assumption)]
        exact zCL_fr z9 (fun c j h => zxcj (by omega) rfl)
      · rw [if_neg (by assumption)]
        exact zCL_fr z9 (fun c j h => zxcj (by omega) rfl))
def T_Z_sav0 : ZT := fun args I L R S Q => args = [zvr 40] ∧ (zSh S) ∧ (zRs R) ∧ (I 82 0 = -1) ∧ ∀ (I' : ZI), (I' 40 3 = 3) → (∀ c j : Nat, ¬ (c = 40 ∧ j = 3) → I' c j = I c j) → Q (some (zvi (-1))) I' L R S
theorem sn_Z_sav0 : ZSnd 7 11 44 T_Z_sav0 := ZSnd.of (zT11_44 6) (by
  rintro args I L R S Q hz ⟨rfl, hS, hR, hb0, hQ⟩
  refine And.intro rfl ?_
  refine And.intro (zA_40 hS) (zrdR (v := some 145) (zR_40_18 hR) ?_)
  refine And.intro (zA_40 hS) (zrdR (v := some 82) (zR_40_9 hR) ?_)
  refine And.intro (zA_145 hS) ⟨_, sn_A_keep0.up (by decide), ?_⟩
  refine ⟨rfl, hS, hR, (Eq.trans (b := ((-1) : Int)) hb0 (by omega)), ?_⟩
  refine And.intro (zA_40 hS) (Exists.intro _ (And.intro (zinl_ok (zT11_1 5)) (And.intro rfl ?_)))
  refine And.intro (zRb rfl) (zbf rfl ?_)
  refine And.intro (zA_40 hS) ⟨_, (zWi (zRb rfl)), ?_⟩
  refine And.intro (zRb rfl) (zbf rfl ?_)
  refine hQ _ zxe (fun c j h0 => (zxcj h0 rfl)))
def T_Z_ld0 : ZT := fun args I L R S Q => ∃ (e : Int), args = [zvr 40, zvi e] ∧ (zSh S) ∧ (zRs R) ∧ (I 82 0 = -1) ∧ ∀ (I' : ZI), (I' 40 3 = 3) → (∀ c j : Nat, ¬ (c = 40 ∧ j = 3) → I' c j = I c j) → Q (some (zvi (-1))) I' L R S
theorem sn_Z_ld0 : ZSnd 5 11 27 T_Z_ld0 := ZSnd.of (zT11_27 4) (by
  rintro args I L R S Q hz ⟨e, rfl, hS, hR, hb0, hQ⟩
  refine And.intro rfl ?_
  refine And.intro (zA_40 hS) (zrdR (v := some 145) (zR_40_18 hR) ?_)
  refine And.intro (zA_40 hS) (zrdR (v := some 82) (zR_40_9 hR) ?_)
  refine And.intro (zA_145 hS) ⟨_, sn_A_ptb0.up (by decide), ?_⟩
  refine ⟨(e : Int), rfl, hS, hR, (Eq.trans (b := ((-1) : Int)) hb0 (by omega)), ?_⟩
  refine And.intro (zA_40 hS) (Exists.intro _ (And.intro (zinl_ok (zT11_1 3)) (And.intro rfl ?_)))
  refine And.intro (zRb rfl) (zbf rfl ?_)
  refine And.intro (zA_40 hS) ⟨_, (zWi (zRb rfl)), ?_⟩
  refine And.intro (zRb rfl) (zbf rfl ?_)
  refine hQ _ zxe (fun c j h0 => (zxcj h0 rfl)))
def T_Z_ld : ZT := fun args I L R S Q => ∃ (x : SvK) (cr : Nat) (cn : Nat) (b : Nat) (s : BdS) (e : Int), args = [zvr 40, zvi e] ∧ (zSh S) ∧ (zRs R) ∧ (zBA b s I L) ∧ (bGd s) ∧ (zCL x.1 x.2.1 x.2.2.1 x.2.2.2 cr cn I) ∧ (b ≤ 6) ∧ (stM4 x.1 x.2.2.1) ∧ (r32 e) ∧ ∀ (v : Int) (I' : ZI), (v = if 0 ≤ (ldV b cr x.2.2.1 x.1 e s) then (ldV b cr x.2.2.1 x.1 e s) else -1) → (I' 40 3 = if 0 ≤ (ldV b cr x.2.2.1 x.1 e s) then 0 else -(ldV b cr x.2.2.1 x.1 e s)) → (zBA b (ldS b cr x.2.2.1 x.1 e s) I' L) → (∀ c j : Nat, ¬ c = 86 → ¬ c = 87 → ¬ c = 89 → ¬ (c = 88 ∧ j = 2) → ¬ (c = 90 ∧ j = 2) → ¬ c = 91 → ¬ c = 93 → ¬ (c = 40 ∧ j = 3) → I' c j = I c j) → Q (some (zvi (v))) I' L R S
theorem sn_Z_ld : ZSnd 5 11 27 T_Z_ld := ZSnd.of (zT11_27 4) (by
  rintro args I L R S Q hz ⟨x, cr, cn, b, s, e, rfl, hS, hR, hBA, hGd, hCL, hb6, h4, re, hQ⟩
  refine And.intro rfl ?_
  refine And.intro (zA_40 hS) (zrdR (v := some 145) (zR_40_18 hR) ?_)
  refine And.intro (zA_40 hS) (zrdR (v := some 82) (zR_40_9 hR) ?_)
  refine And.intro (zA_145 hS) ⟨_, sn_A_ptb.up (by decide), ?_⟩
  refine ⟨x, cr, cn, b, s, (e : Int), rfl, hS, hR, (by first | exact (zBA_fr hBA (fun c j h => rfl) (fun c j h => rfl)) | (clear hQ; grind [xu])), (by first | exact hGd | (clear hQ; grind [xu])), (by first | exact (zCL_fr hCL (fun c j h => rfl)) | (clear hQ; grind [xu])), (by omega), (by first | exact h4 | (clear hQ; grind [xu])), (by omega), ?_⟩
  intro v10o I10o p10hv p10bhBA2 p10bbfr
  have g10 : -4 ≤ v10o ∧ v10o ≤ 1000 := (by rw [p10hv]; exact ldV_b hCL h4 hGd)
  refine And.intro (zA_40 hS) (Exists.intro _ (And.intro (zinl_ok (zT11_1 3)) (And.intro rfl ?_)))
  refine And.intro (by omega) ⟨fun h2_13 => ?_, fun h2_13 => ?_⟩
  · refine And.intro (zA_40 hS) ⟨_, (zWi (zRb rfl)), ?_⟩
    refine And.intro (by omega) ⟨fun h15_13 => ?_, (fun h15_13 => False.elim (by omega))⟩
    refine hQ _ _ ?_ ?_ (zBA_fr p10bhBA2 (fun c j h => zxcj (by omega) rfl) (fun c j h => rfl)) (fun c j h0 h1 h2 h3 h4 h5 h6 h7 => (zxcj h7 ((p10bbfr c j h0 h1 h2 h3 h4 h5 h6).trans rfl)))
    · rw [← p10hv]
      first
      | rw [if_pos (by omega)]
      | rw [if_neg (by omega)]
    · rw [← p10hv]
      first
      | (rw [if_pos (by omega)]; exact zxe)
      | (rw [if_neg (by omega)]; exact zxe)
  · refine And.intro (zA_40 hS) ⟨_, (zWi (by omega)), ?_⟩
    refine And.intro (by omega) ⟨(fun h15_13 => False.elim (by omega)), fun h15_13 => ?_⟩
    refine hQ _ _ ?_ ?_ (zBA_fr p10bhBA2 (fun c j h => zxcj (by omega) rfl) (fun c j h => rfl)) (fun c j h0 h1 h2 h3 h4 h5 h6 h7 => (zxcj h7 ((p10bbfr c j h0 h1 h2 h3 h4 h5 h6).trans rfl)))
    · rw [← p10hv]
      first
      | rw [if_pos (by omega)]
      | rw [if_neg (by omega)]
    · rw [← p10hv]
      first
      | (rw [if_pos (by omega)]; exact zxe)
      | (rw [if_neg (by omega)]; exact zxe))
def T_Z_drp : ZT := fun args I L R S Q => ∃ (x : SvK) (cr : Nat) (cn : Nat) (e : Int), args = [zvr 40, zvi e] ∧ (zSh S) ∧ (zRs R) ∧ (zCL x.1 x.2.1 x.2.2.1 x.2.2.2 cr cn I) ∧ (r32 e) ∧ ∀ (v : Int) (I' : ZI), (v = if 0 ≤ (stDv x.2.2.1 x.2.2.2 cr e) then 1 else 0) → (I' 40 3 = if 0 ≤ (stDv x.2.2.1 x.2.2.2 cr e) then 0 else -(stDv x.2.2.1 x.2.2.2 cr e)) → (if stDv x.2.2.1 x.2.2.2 cr e = 0 then zCL (lg2 x.1 x.2.2.2 4 e) (x.2.1 + 1) (stDrp e.toNat x.2.2.1) (x.2.2.2 + 2) 0 cn I' else zCL x.1 x.2.1 x.2.2.1 x.2.2.2 cr cn I') → (∀ c j : Nat, ¬ c = 146 → ¬ c = 147 → ¬ c = 148 → ¬ c = 149 → ¬ c = 150 → ¬ c = 151 → ¬ c = 152 → ¬ (c = 145 ∧ j = 5) → ¬ (c = 145 ∧ j = 9) → ¬ (c = 145 ∧ j = 1) → ¬ (c = 40 ∧ j = 3) → I' c j = I c j) → Q (some (zvi (v))) I' L R S
theorem sn_Z_drp : ZSnd 6 11 14 T_Z_drp := ZSnd.of (zT11_14 5) (by
  rintro args I L R S Q hz ⟨x, cr, cn, e, rfl, hS, hR, hCL, re, hQ⟩
  refine And.intro rfl ?_
  refine And.intro (zA_40 hS) (zrdR (v := some 145) (zR_40_18 hR) ?_)
  refine And.intro (zA_145 hS) ⟨_, sn_A_drop.up (by decide), ?_⟩
  refine ⟨x.1, x.2.1, x.2.2.1, x.2.2.2, cr, cn, (e : Int), rfl, hS, hR, (by first | exact (zCL_fr hCL (fun c j h => rfl)) | (clear hQ; grind [xu])), (by omega), ?_⟩
  intro v6o I6o p6hv p6bhCL2 p6bbfr
  have g6 : -4 ≤ v6o ∧ v6o ≤ 1000 := (by rw [p6hv]; unfold stDv; split; omega; split; omega; split; omega; split <;> omega)
  refine And.intro (zA_40 hS) (Exists.intro _ (And.intro (zinl_ok (zT11_22 4)) (And.intro rfl ?_)))
  refine And.intro (zA_40 hS) (Exists.intro _ (And.intro (zinl_ok (zT11_1 3)) (And.intro rfl ?_)))
  refine And.intro (by omega) ⟨fun h2_9_2 => ?_, fun h2_9_2 => ?_⟩
  · refine And.intro (zA_40 hS) ⟨_, (zWi (zRb rfl)), ?_⟩
    refine And.intro (by omega) ⟨fun h15_9_2 => ?_, (fun h15_9_2 => False.elim (by omega))⟩
    refine And.intro ⟨(by omega), (zRb rfl)⟩ ⟨(fun h6_9 => False.elim (by omega)), fun h6_9 => ?_⟩
    refine And.intro (Or.inr rfl) ?_
    refine And.intro (Or.inr rfl) ?_
    refine hQ _ _ ?_ ?_ ?_ (fun c j h0 h1 h2 h3 h4 h5 h6 h7 h8 h9 h10 => (zxcj h10 ((p6bbfr c j h0 h1 h2 h3 h4 h5 h6 h7 h8 h9).trans rfl)))
    · rw [← p6hv]
      first
      | rw [if_pos (by omega)]
      | rw [if_neg (by omega)]
    · rw [← p6hv]
      first
      | (rw [if_pos (by omega)]; exact zxe)
      | (rw [if_neg (by omega)]; exact zxe)
    · have z9 := p6bhCL2
      split at z9
      · rw [if_pos (by assumption)]
        exact zCL_fr z9 (fun c j h => zxcj (by omega) rfl)
      · rw [if_neg (by assumption)]
        exact zCL_fr z9 (fun c j h => zxcj (by omega) rfl)
  · refine And.intro (zA_40 hS) ⟨_, (zWi (by omega)), ?_⟩
    refine And.intro (by omega) ⟨(fun h15_9_2 => False.elim (by omega)), fun h15_9_2 => ?_⟩
    refine And.intro ⟨(zRb rfl), (zRb rfl)⟩ (zbt rfl ?_)
    refine And.intro (Or.inl rfl) ?_
    refine And.intro (Or.inl rfl) ?_
    refine hQ _ _ ?_ ?_ ?_ (fun c j h0 h1 h2 h3 h4 h5 h6 h7 h8 h9 h10 => (zxcj h10 ((p6bbfr c j h0 h1 h2 h3 h4 h5 h6 h7 h8 h9).trans rfl)))
    · rw [← p6hv]
      first
      | rw [if_pos (by omega)]
      | rw [if_neg (by omega)]
    · rw [← p6hv]
      first
      | (rw [if_pos (by omega)]; exact zxe)
      | (rw [if_neg (by omega)]; exact zxe)
    · have z9 := p6bhCL2
      split at z9
      · rw [if_pos (by assumption)]
        exact zCL_fr z9 (fun c j h => zxcj (by omega) rfl)
      · rw [if_neg (by assumption)]
        exact zCL_fr z9 (fun c j h => zxcj (by omega) rfl))
def T_Z_swp : ZT := fun args I L R S Q => ∃ (x : SvK) (cr : Nat) (cn : Nat), args = [zvr 40] ∧ (zSh S) ∧ (zRs R) ∧ (zCL x.1 x.2.1 x.2.2.1 x.2.2.2 cr cn I) ∧ ∀ (v : Int) (I' : ZI), (v = if 0 ≤ (stWv x.2.2.1 x.2.2.2 cr) then (stWv x.2.2.1 x.2.2.2 cr) else -1) → (I' 40 3 = if 0 ≤ (stWv x.2.2.1 x.2.2.2 cr) then 0 else -(stWv x.2.2.1 x.2.2.2 cr)) → (if cr = 0 ∧ x.2.2.2 < 400 then zCL (lg2 x.1 x.2.2.2 5 (-1)) (x.2.1 + 1) (stSwp x.2.2.1) (x.2.2.2 + 1) cr cn I' else zCL x.1 x.2.1 x.2.2.1 x.2.2.2 cr cn I') → (∀ c j : Nat, ¬ c = 146 → ¬ c = 149 → ¬ (c = 145 ∧ j = 1) → ¬ (c = 40 ∧ j = 3) → I' c j = I c j) → Q (some (zvi (v))) I' L R S
theorem sn_Z_swp : ZSnd 4 11 50 T_Z_swp := ZSnd.of (zT11_50 3) (by
  rintro args I L R S Q hz ⟨x, cr, cn, rfl, hS, hR, hCL, hQ⟩
  refine And.intro rfl ?_
  refine And.intro (zA_40 hS) (zrdR (v := some 145) (zR_40_18 hR) ?_)
  refine And.intro (zA_145 hS) ⟨_, sn_A_sweep.up (by decide), ?_⟩
  refine ⟨x.1, x.2.1, x.2.2.1, x.2.2.2, cr, cn, rfl, hS, hR, (by first | exact (zCL_fr hCL (fun c j h => rfl)) | (clear hQ; grind [xu])), ?_⟩
  intro v5o I5o p5hv p5bhCL2 p5bbfr
  have g5 : -4 ≤ v5o ∧ v5o ≤ 1000 := (by rw [p5hv]; have z8 := (show sB x.2.2.1 ≤ 24 from by have w := stN_G hCL.2.2.2.2.1.2.2.2.1; rw [← hCL.2.2.2.2.1.2.2.1] at w; exact w.1.1); have z7 := stSwN_le x.2.2.1 (sB x.2.2.1); unfold stWv; split; omega; split <;> omega)
  refine And.intro (zA_40 hS) (Exists.intro _ (And.intro (zinl_ok (zT11_1 2)) (And.intro rfl ?_)))
  refine And.intro (by omega) ⟨fun h2_8 => ?_, fun h2_8 => ?_⟩
  · refine And.intro (zA_40 hS) ⟨_, (zWi (zRb rfl)), ?_⟩
    refine And.intro (by omega) ⟨fun h15_8 => ?_, (fun h15_8 => False.elim (by omega))⟩
    refine hQ _ _ ?_ ?_ ?_ (fun c j h0 h1 h2 h3 => (zxcj h3 ((p5bbfr c j h0 h1 h2).trans rfl)))
    · rw [← p5hv]
      first
      | rw [if_pos (by omega)]
      | rw [if_neg (by omega)]
    · rw [← p5hv]
      first
      | (rw [if_pos (by omega)]; exact zxe)
      | (rw [if_neg (by omega)]; exact zxe)
    · have z9 := p5bhCL2
      split at z9
      · rw [if_pos (by assumption)]
        exact zCL_fr z9 (fun c j h => zxcj (by omega) rfl)
      · rw [if_neg (by assumption)]
        exact zCL_fr z9 (fun c j h => zxcj (by omega) rfl)
  · refine And.intro (zA_40 hS) ⟨_, (zWi (by omega)), ?_⟩
    refine And.intro (by omega) ⟨(fun h15_8 => False.elim (by omega)), fun h15_8 => ?_⟩
    refine hQ _ _ ?_ ?_ ?_ (fun c j h0 h1 h2 h3 => (zxcj h3 ((p5bbfr c j h0 h1 h2).trans rfl)))
    · rw [← p5hv]
      first
      | rw [if_pos (by omega)]
      | rw [if_neg (by omega)]
    · rw [← p5hv]
      first
      | (rw [if_pos (by omega)]; exact zxe)
      | (rw [if_neg (by omega)]; exact zxe)
    · have z9 := p5bhCL2
      split at z9
      · rw [if_pos (by assumption)]
        exact zCL_fr z9 (fun c j h => zxcj (by omega) rfl)
      · rw [if_neg (by assumption)]
        exact zCL_fr z9 (fun c j h => zxcj (by omega) rfl))
def T_Z_cra : ZT := fun args I L R S Q => ∃ (x : SvK) (cr : Nat) (cn : Nat) (k : Int), args = [zvr 40, zvi k] ∧ (zSh S) ∧ (zRs R) ∧ (zCL x.1 x.2.1 x.2.2.1 x.2.2.2 cr cn I) ∧ (r32 k) ∧ ∀ (v : Int) (I' : ZI), (v = if 0 ≤ (stCv x.2.2.2 cr cn k) then 1 else 0) → (I' 40 3 = if 0 ≤ (stCv x.2.2.2 cr cn k) then 0 else -(stCv x.2.2.2 cr cn k)) → (if stCv x.2.2.2 cr cn k = 0 then zex (fun m' => zCL x.1 m' (stN x.1 m').2 k.toNat 1 (cn + 1) I') else zCL x.1 x.2.1 x.2.2.1 x.2.2.2 cr cn I') → (∀ c j : Nat, ¬ (c = 145 ∧ j = 1) → ¬ (c = 145 ∧ j = 10) → ¬ (c = 145 ∧ j = 11) → ¬ (c = 40 ∧ j = 3) → I' c j = I c j) → Q (some (zvi (v))) I' L R S
theorem sn_Z_cra : ZSnd 3 11 10 T_Z_cra := ZSnd.of (zT11_10 2) (by
  rintro args I L R S Q hz ⟨x, cr, cn, k, rfl, hS, hR, hCL, rk, hQ⟩
  refine And.intro rfl ?_
  refine And.intro (zA_40 hS) (zrdR (v := some 145) (zR_40_18 hR) ?_)
  refine And.intro (zA_145 hS) ⟨_, sn_A_lose.up (by decide), ?_⟩
  refine ⟨x.1, x.2.1, x.2.2.1, x.2.2.2, cr, cn, (k : Int), rfl, hS, hR, (by first | exact (zCL_fr hCL (fun c j h => rfl)) | (clear hQ; grind [xu])), (by omega), ?_⟩
  intro v6o I6o p6hv p6bhCL2 p6bbfr
  have g6 : -4 ≤ v6o ∧ v6o ≤ 1000 := (by rw [p6hv]; unfold stCv; split; omega; split; omega; split <;> omega)
  refine And.intro (zA_40 hS) (Exists.intro _ (And.intro (zinl_ok (zT11_22 1)) (And.intro rfl ?_)))
  refine And.intro (zA_40 hS) (Exists.intro _ (And.intro (zinl_ok (zT11_1 0)) (And.intro rfl ?_)))
  refine And.intro (by omega) ⟨fun h2_9_2 => ?_, fun h2_9_2 => ?_⟩
  · refine And.intro (zA_40 hS) ⟨_, (zWi (zRb rfl)), ?_⟩
    refine And.intro (by omega) ⟨fun h15_9_2 => ?_, (fun h15_9_2 => False.elim (by omega))⟩
    refine And.intro ⟨(by omega), (zRb rfl)⟩ ⟨(fun h6_9 => False.elim (by omega)), fun h6_9 => ?_⟩
    refine And.intro (Or.inr rfl) ?_
    refine And.intro (Or.inr rfl) ?_
    refine hQ _ _ ?_ ?_ ?_ (fun c j h0 h1 h2 h3 => (zxcj h3 ((p6bbfr c j h0 h1 h2).trans rfl)))
    · rw [← p6hv]
      first
      | rw [if_pos (by omega)]
      | rw [if_neg (by omega)]
    · rw [← p6hv]
      first
      | (rw [if_pos (by omega)]; exact zxe)
      | (rw [if_neg (by omega)]; exact zxe)
    · have z9 := p6bhCL2
      split at z9
      · rw [if_pos (by assumption)]
        obtain ⟨m', z8⟩ := z9
        exact ⟨m', zCL_fr z8 (fun c j h => zxcj (by omega) rfl)⟩
      · rw [if_neg (by assumption)]
        exact zCL_fr z9 (fun c j h => zxcj (by omega) rfl)
  · refine And.intro (zA_40 hS) ⟨_, (zWi (by omega)), ?_⟩
    refine And.intro (by omega) ⟨(fun h15_9_2 => False.elim (by omega)), fun h15_9_2 => ?_⟩
    refine And.intro ⟨(zRb rfl), (zRb rfl)⟩ (zbt rfl ?_)
    refine And.intro (Or.inl rfl) ?_
    refine And.intro (Or.inl rfl) ?_
    refine hQ _ _ ?_ ?_ ?_ (fun c j h0 h1 h2 h3 => (zxcj h3 ((p6bbfr c j h0 h1 h2).trans rfl)))
    · rw [← p6hv]
      first
      | rw [if_pos (by omega)]
      | rw [if_neg (by omega)]
    · rw [← p6hv]
      first
      | (rw [if_pos (by omega)]; exact zxe)
      | (rw [if_neg (by omega)]; exact zxe)
    · have z9 := p6bhCL2
      split at z9
      · rw [if_pos (by assumption)]
        obtain ⟨m', z8⟩ := z9
        exact ⟨m', zCL_fr z8 (fun c j h => zxcj (by omega) rfl)⟩
      · rw [if_neg (by assumption)]
        exact zCL_fr z9 (fun c j h => zxcj (by omega) rfl))
def T_Z_svd : ZT := fun args I L R S Q => ∃ (x : SvK) (cr : Nat) (cn : Nat) (e : Int) (i : Int), args = [zvr 40, zvi e, zvi i] ∧ (zSh S) ∧ (zRs R) ∧ (zCL x.1 x.2.1 x.2.2.1 x.2.2.2 cr cn I) ∧ (r32 e ∧ r32 i) ∧ ∀ (v : Int), (v = stQ x.1 x.2.2.1 cr e i) → Q (some (zvi (v))) I L R S
theorem sn_Z_svd : ZSnd 3 11 45 T_Z_svd := ZSnd.of (zT11_45 2) (by
  rintro args I L R S Q hz ⟨x, cr, cn, e, i, rfl, hS, hR, hCL, re, hQ⟩
  refine And.intro rfl ?_
  refine And.intro (zA_40 hS) (zrdR (v := some 145) (zR_40_18 hR) ?_)
  refine And.intro (zA_145 hS) ⟨_, sn_A_byte.up (by decide), ?_⟩
  refine ⟨x.1, x.2.1, x.2.2.1, x.2.2.2, cr, cn, (e : Int), (i : Int), rfl, hS, hR, (by first | exact (zCL_fr hCL (fun c j h => rfl)) | (clear hQ; grind [xu])), (by omega), ?_⟩
  intro v6o p6hv
  refine hQ _ p6hv)
def T_Z_reo : ZT := fun args I L R S Q => ∃ (x : SvK) (cr : Nat) (cn : Nat), args = [zvr 40] ∧ (zSh S) ∧ (zRs R) ∧ (zCL x.1 x.2.1 x.2.2.1 x.2.2.2 cr cn I) ∧ ∀ (v : Int) (z2 : Nat) (I' : ZI), ((cr = 0 ∧ v = -1 ∧ I' 40 3 = 3 ∧ z2 = x.2.2.2) ∨ (cr = 1 ∧ v = sV x.2.2.1 ∧ I' 40 3 = 0 ∧ z2 = (stN x.1 x.2.1).1)) → (zCL x.1 x.2.1 x.2.2.1 z2 0 cn I') → (∀ c j : Nat, ¬ c = 147 → ¬ c = 148 → ¬ c = 149 → ¬ c = 150 → ¬ c = 151 → ¬ c = 152 → ¬ (c = 145 ∧ j = 5) → ¬ (c = 145 ∧ j = 9) → ¬ (c = 145 ∧ j = 1) → ¬ (c = 145 ∧ j = 10) → ¬ (c = 40 ∧ j = 3) → I' c j = I c j) → Q (some (zvi (v))) I' L R S
theorem sn_Z_reo : ZSnd 5 11 38 T_Z_reo := ZSnd.of (zT11_38 4) (by
  rintro args I L R S Q hz ⟨x, cr, cn, rfl, hS, hR, hCL, hQ⟩
  refine And.intro rfl ?_
  refine And.intro (zA_40 hS) (zrdR (v := some 145) (zR_40_18 hR) ?_)
  refine And.intro (zA_145 hS) ⟨_, sn_A_reopen.up (by decide), ?_⟩
  refine ⟨x.1, x.2.1, x.2.2.1, x.2.2.2, cr, cn, rfl, hS, hR, (by first | exact (zCL_fr hCL (fun c j h => rfl)) | (clear hQ; grind [xu])), ?_⟩
  intro v5o z25o I5o p5hv p5bhCL2 p5bbfr
  have g5 : -4 ≤ v5o ∧ v5o ≤ 1000 := (by have z8 := (show sV x.2.2.1 ≤ 12 from by have w := stN_G hCL.2.2.2.2.1.2.2.2.1; rw [← hCL.2.2.2.2.1.2.2.1] at w; exact w.1.2.1); omega)
  refine And.intro (zA_40 hS) (Exists.intro _ (And.intro (zinl_ok (zT11_1 3)) (And.intro rfl ?_)))
  refine And.intro (by omega) ⟨fun h2_8 => ?_, fun h2_8 => ?_⟩
  · refine And.intro (zA_40 hS) ⟨_, (zWi (zRb rfl)), ?_⟩
    refine And.intro (by omega) ⟨fun h15_8 => ?_, (fun h15_8 => False.elim (by omega))⟩
    refine hQ _ z25o _ ?_ (zCL_fr p5bhCL2 (fun c j h => zxcj (by omega) rfl)) (fun c j h0 h1 h2 h3 h4 h5 h6 h7 h8 h9 h10 => (zxcj h10 ((p5bbfr c j h0 h1 h2 h3 h4 h5 h6 h7 h8 h9).trans rfl)))
    · first
      | exact Or.inr ⟨by omega, by omega, zxe, by omega⟩
      | exact Or.inl ⟨by omega, rfl, zxe.trans (by omega), by omega⟩
  · refine And.intro (zA_40 hS) ⟨_, (zWi (by omega)), ?_⟩
    refine And.intro (by omega) ⟨(fun h15_8 => False.elim (by omega)), fun h15_8 => ?_⟩
    refine hQ _ z25o _ ?_ (zCL_fr p5bhCL2 (fun c j h => zxcj (by omega) rfl)) (fun c j h0 h1 h2 h3 h4 h5 h6 h7 h8 h9 h10 => (zxcj h10 ((p5bbfr c j h0 h1 h2 h3 h4 h5 h6 h7 h8 h9).trans rfl)))
    · first
      | exact Or.inr ⟨by omega, by omega, zxe, by omega⟩
      | exact Or.inl ⟨by omega, rfl, zxe.trans (by omega), by omega⟩)
