/-! yx -/
def T_Z_vs0 : ZT := fun args I L R S Q => args = [zvr 40] ∧ (zSh S) ∧ (zRs R) ∧ (I 40 14 = 0) ∧ Q (some (zvi (-1))) I L R S
theorem sn_Z_vs0 : ZSnd 1 11 54 T_Z_vs0 := ZSnd.of (zT11_54 0) (by
  rintro args I L R S Q hz ⟨rfl, hS, hR, hm, hQ⟩
  refine And.intro rfl ?_
  refine And.intro (zA_40 hS) (zrd (v := 0) hm ?_)
  refine And.intro (zRb rfl) (zbf rfl ?_)
  refine hQ )
def T_Z_vi0 : ZT := fun args I L R S Q => ∃ (a : Int) (b : Int), args = [zvr 40, zvi a, zvi b] ∧ (zSh S) ∧ (zRs R) ∧ (I 40 14 = 0) ∧ Q (some (zvi (-1))) I L R S
theorem sn_Z_vi0 : ZSnd 2 11 53 T_Z_vi0 := ZSnd.of (zT11_53 1) (by
  rintro args I L R S Q hz ⟨a, b, rfl, hS, hR, hm, hQ⟩
  refine And.intro rfl ?_
  refine And.intro (zA_40 hS) (zrd (v := 0) hm ?_)
  refine And.intro (zRb rfl) (zbf rfl ?_)
  refine hQ )
def T_Z_co0 : ZT := fun args I L R S Q => ∃ (a : Int), args = [zvr 40, zvi a] ∧ (zSh S) ∧ (zRs R) ∧ (I 40 14 = 0) ∧ Q (some (zvi (-1))) I L R S
theorem sn_Z_co0 : ZSnd 2 11 7 T_Z_co0 := ZSnd.of (zT11_7 1) (by
  rintro args I L R S Q hz ⟨a, rfl, hS, hR, hm, hQ⟩
  refine And.intro rfl ?_
  refine And.intro (zA_40 hS) (zrd (v := 0) hm ?_)
  refine And.intro (zRb rfl) (zbf rfl ?_)
  refine hQ )
def T_Z_ai0 : ZT := fun args I L R S Q => ∃ (a : Int) (kk : Int) (wh : Int), args = [zvr 40, zvi a, zvi kk, zvi wh] ∧ (zSh S) ∧ (zRs R) ∧ (I 40 14 = 0) ∧ Q (some (zvi (-1))) I L R S
theorem sn_Z_ai0 : ZSnd 3 11 0 T_Z_ai0 := ZSnd.of (zT11_0 2) (by
  rintro args I L R S Q hz ⟨a, kk, wh, rfl, hS, hR, hm, hQ⟩
  refine And.intro rfl ?_
  refine And.intro (zA_40 hS) (zrd (v := 0) hm ?_)
  refine And.intro (zRb rfl) (zbf rfl ?_)
  refine hQ )
def T_Z_ss0 : ZT := fun args I L R S Q => args = [zvr 40] ∧ (zSh S) ∧ (zRs R) ∧ (I 40 14 = 0) ∧ Q (some (zvi (-1))) I L R S
theorem sn_Z_ss0 : ZSnd 1 11 48 T_Z_ss0 := ZSnd.of (zT11_48 0) (by
  rintro args I L R S Q hz ⟨rfl, hS, hR, hm, hQ⟩
  refine And.intro rfl ?_
  refine And.intro (zA_40 hS) (zrd (v := 0) hm ?_)
  refine And.intro (zRb rfl) (zbf rfl ?_)
  refine hQ )
def T_Z_ex0 : ZT := fun args I L R S Q => args = [zvr 40] ∧ (zSh S) ∧ (zRs R) ∧ (I 40 14 = 0) ∧ Q (some (zvi (0))) I L R S
theorem sn_Z_ex0 : ZSnd 2 11 17 T_Z_ex0 := ZSnd.of (zT11_17 1) (by
  rintro args I L R S Q hz ⟨rfl, hS, hR, hm, hQ⟩
  refine And.intro rfl ?_
  refine And.intro (zA_40 hS) (zrd (v := 0) hm ?_)
  refine And.intro (zRb rfl) (zbt rfl ?_)
  refine And.intro (Or.inl rfl) ?_
  refine hQ )
def T_Z_dr0 : ZT := fun args I L R S Q => ∃ (a : Int) (b : Int), args = [zvr 40, zvi a, zvi b] ∧ (zSh S) ∧ (zRs R) ∧ (I 40 14 = 0) ∧ Q (some (zvi (-1))) I L R S
theorem sn_Z_dr0 : ZSnd 5 11 13 T_Z_dr0 := ZSnd.of (zT11_13 4) (by
  rintro args I L R S Q hz ⟨a, b, rfl, hS, hR, hm, hQ⟩
  refine And.intro rfl ?_
  refine And.intro (zA_40 hS) (zrd (v := 0) hm ?_)
  refine And.intro (zRb rfl) (zbf rfl ?_)
  refine hQ )
def T_Z_re0 : ZT := fun args I L R S Q => ∃ (a : Int), args = [zvr 40, zvi a] ∧ (zSh S) ∧ (zRs R) ∧ (I 40 14 = 0) ∧ Q (some (zvi (-1))) I L R S
theorem sn_Z_re0 : ZSnd 5 11 39 T_Z_re0 := ZSnd.of (zT11_39 4) (by
  rintro args I L R S Q hz ⟨a, rfl, hS, hR, hm, hQ⟩
  refine And.intro rfl ?_
  refine And.intro (zA_40 hS) (zrd (v := 0) hm ?_)
  refine And.intro (zRb rfl) (zbf rfl ?_)
  refine hQ )
def T_Z_vs : ZT := fun args I L R S Q => ∃ (k : Nat) (m : Nat) (w : List CuR) (pc : Nat) (nr : Nat) (rf : Nat → Nat → Int) (bn : Int) (al : Int), args = [zvr 40] ∧ (zSh S) ∧ (zRs R) ∧ (I 40 14 = m) ∧ (1 ≤ m ∧ m ≤ 10) ∧ (R 40 12 = some k) ∧ (zDy zT1 zF1 k R S) ∧ (k = 106 ∨ k = 118) ∧ (zUC k w pc nr rf bn al I) ∧ ∀ (v : Int), (v = viN (cuAl w nr rf)) → Q (some (zvi (v))) I L R S
theorem sn_Z_vs : ZSnd 1 11 54 T_Z_vs := ZSnd.of (zT11_54 0) (by
  rintro args I L R S Q hz ⟨k, m, w, pc, nr, rf, bn, al, rfl, hS, hR, hm, hm1, hl, hD, hk, hUC, hQ⟩
  have hk106 : 106 ≤ k := by omega
  have hk118 : k ≤ 118 := by omega
  obtain ⟨⟨⟨u0, u3, u4⟩, ul, uG, uq, uh, ua⟩, uw, up, uaa, u9, ⟨uf, ust, u11⟩, uhh, uo⟩ := id hUC
  have hn11 := zUC_n hUC
  refine And.intro rfl ?_
  refine And.intro (zA_40 hS) (zrd (v := m) hm ?_)
  refine And.intro (by omega) ⟨fun h4 => ?_, (fun h4 => False.elim (by omega))⟩
  refine And.intro (zA_40 hS) (zrdR (v := some k) hl ?_)
  refine And.intro (zDX hD 0 rfl) (zrd (v := (viN (cuAl w nr rf))) hn11 ?_)
  refine hQ _ (by omega))
def T_Z_vi : ZT := fun args I L R S Q => ∃ (k : Nat) (m : Nat) (w : List CuR) (pc : Nat) (nr : Nat) (rf : Nat → Nat → Int) (bn : Int) (al : Int) (a : Int) (b : Int), args = [zvr 40, zvi a, zvi b] ∧ (zSh S) ∧ (zRs R) ∧ (I 40 14 = m) ∧ (1 ≤ m ∧ m ≤ 10) ∧ (R 40 12 = some k) ∧ (zDy zT1 zF1 k R S) ∧ (k = 106 ∨ k = 118) ∧ (zUC k w pc nr rf bn al I) ∧ (r32 a ∧ r32 b) ∧ ∀ (v : Int), (v = viV (cuAl w nr rf) (viN (cuAl w nr rf)) a b) → Q (some (zvi (v))) I L R S
theorem sn_Z_vi : ZSnd 2 11 53 T_Z_vi := ZSnd.of (zT11_53 1) (by
  rintro args I L R S Q hz ⟨k, m, w, pc, nr, rf, bn, al, a, b, rfl, hS, hR, hm, hm1, hl, hD, hk, hUC, hr, hQ⟩
  have hk106 : 106 ≤ k := by omega
  have hk118 : k ≤ 118 := by omega
  obtain ⟨⟨⟨u0, u3, u4⟩, ul, uG, uq, uh, ua⟩, uw, up, uaa, u9, ⟨uf, ust, u11⟩, uhh, uo⟩ := id hUC
  refine And.intro rfl ?_
  refine And.intro (zA_40 hS) (zrd (v := m) hm ?_)
  refine And.intro (by omega) ⟨fun h4 => ?_, (fun h4 => False.elim (by omega))⟩
  refine And.intro (zA_40 hS) (zrdR (v := some k) hl ?_)
  refine And.intro (zDX hD 0 rfl) ⟨_, sn_U_fpt.up (by decide), ?_⟩
  refine ⟨k, (cuAl w nr rf), (a : Int), (b : Int), rfl, hS, hR, hD, (by first | exact hk | (clear hQ; grind [xu])), (by clear hQ; grind [xu]), (by clear hQ; grind [xu]), (by omega), ?_⟩
  intro v17o p17hv
  refine hQ _ ?_
  · rw [← zUC_n hUC]
    unfold viV
    by_cases q9 : 0 ≤ a ∧ a < I k 11
    · rw [if_pos q9]
      have z9 := p17hv
      rw [if_pos q9, zUC_v hUC (j := a.toNat) (by omega)] at z9
      exact z9
    · rw [if_neg q9]
      have z9 := p17hv
      rw [if_neg q9] at z9
      exact z9)
def T_Z_co : ZT := fun args I L R S Q => ∃ (k : Nat) (m : Nat) (w : List CuR) (pc : Nat) (nr : Nat) (rf : Nat → Nat → Int) (bn : Int) (al : Int) (a : Int), args = [zvr 40, zvi a] ∧ (zSh S) ∧ (zRs R) ∧ (I 40 14 = m) ∧ (1 ≤ m ∧ m ≤ 10) ∧ (R 40 12 = some k) ∧ (zDy zT1 zF1 k R S) ∧ (k = 106 ∨ k = 118) ∧ (zUC k w pc nr rf bn al I) ∧ (r32 a) ∧ ∀ (v : Int), (v = cuCp w a) → Q (some (zvi (v))) I L R S
theorem sn_Z_co : ZSnd 2 11 7 T_Z_co := ZSnd.of (zT11_7 1) (by
  rintro args I L R S Q hz ⟨k, m, w, pc, nr, rf, bn, al, a, rfl, hS, hR, hm, hm1, hl, hD, hk, hUC, hr, hQ⟩
  have hk106 : 106 ≤ k := by omega
  have hk118 : k ≤ 118 := by omega
  obtain ⟨⟨⟨u0, u3, u4⟩, ul, uG, uq, uh, ua⟩, uw, up, uaa, u9, ⟨uf, ust, u11⟩, uhh, uo⟩ := id hUC
  refine And.intro rfl ?_
  refine And.intro (zA_40 hS) (zrd (v := m) hm ?_)
  refine And.intro (by omega) ⟨fun h4 => ?_, (fun h4 => False.elim (by omega))⟩
  refine And.intro (zA_40 hS) (zrdR (v := some k) hl ?_)
  refine And.intro (zDX hD 0 rfl) ⟨_, sn_U_cpo.up (by decide), ?_⟩
  refine ⟨k, w, (a : Int), rfl, hS, hR, hD, (by first | exact hk | (clear hQ; grind [xu])), (by omega), (by clear hQ; grind [xu]), (by omega), ?_⟩
  intro v16o p16hv
  refine hQ _ p16hv)
def T_Z_ai : ZT := fun args I L R S Q => ∃ (k : Nat) (m : Nat) (w : List CuR) (pc : Nat) (nr : Nat) (rf : Nat → Nat → Int) (bn : Int) (al : Int) (a : Int) (kk : Int) (wh : Int), args = [zvr 40, zvi a, zvi kk, zvi wh] ∧ (zSh S) ∧ (zRs R) ∧ (I 40 14 = m) ∧ (1 ≤ m ∧ m ≤ 10) ∧ (R 40 12 = some k) ∧ (zDy zT1 zF1 k R S) ∧ (k = 106 ∨ k = 118) ∧ (zUC k w pc nr rf bn al I) ∧ (r32 a ∧ r32 kk ∧ r32 wh) ∧ ∀ (v : Int), (v = cuAe w pc a kk wh) → Q (some (zvi (v))) I L R S
theorem sn_Z_ai : ZSnd 3 11 0 T_Z_ai := ZSnd.of (zT11_0 2) (by
  rintro args I L R S Q hz ⟨k, m, w, pc, nr, rf, bn, al, a, kk, wh, rfl, hS, hR, hm, hm1, hl, hD, hk, hUC, hr, hQ⟩
  have hk106 : 106 ≤ k := by omega
  have hk118 : k ≤ 118 := by omega
  obtain ⟨⟨⟨u0, u3, u4⟩, ul, uG, uq, uh, ua⟩, uw, up, uaa, u9, ⟨uf, ust, u11⟩, uhh, uo⟩ := id hUC
  refine And.intro rfl ?_
  refine And.intro (zA_40 hS) (zrd (v := m) hm ?_)
  refine And.intro (by omega) ⟨fun h4 => ?_, (fun h4 => False.elim (by omega))⟩
  refine And.intro (zA_40 hS) (zrdR (v := some k) hl ?_)
  refine And.intro (zDX hD 0 rfl) ⟨_, sn_U_ale.up (by decide), ?_⟩
  refine ⟨k, w, pc, (a : Int), (kk : Int), (wh : Int), rfl, hS, hR, hD, (by first | exact hk | (clear hQ; grind [xu])), (by clear hQ; grind [xu]), (by clear hQ; grind [xu]), (by omega), ?_⟩
  intro v18o p18hv
  refine hQ _ p18hv)
def T_Z_ss : ZT := fun args I L R S Q => ∃ (k : Nat) (m : Nat) (w : List CuR) (pc : Nat) (nr : Nat) (rf : Nat → Nat → Int) (bn : Int) (al : Int), args = [zvr 40] ∧ (zSh S) ∧ (zRs R) ∧ (I 40 14 = m) ∧ (1 ≤ m ∧ m ≤ 10) ∧ (R 40 12 = some k) ∧ (zDy zT1 zF1 k R S) ∧ (k = 106 ∨ k = 118) ∧ (zUC k w pc nr rf bn al I) ∧ ∀ (v : Int), (v = cuSc w pc) → Q (some (zvi (v))) I L R S
theorem sn_Z_ss : ZSnd 1 11 48 T_Z_ss := ZSnd.of (zT11_48 0) (by
  rintro args I L R S Q hz ⟨k, m, w, pc, nr, rf, bn, al, rfl, hS, hR, hm, hm1, hl, hD, hk, hUC, hQ⟩
  have hk106 : 106 ≤ k := by omega
  have hk118 : k ≤ 118 := by omega
  obtain ⟨⟨⟨u0, u3, u4⟩, ul, uG, uq, uh, ua⟩, uw, up, uaa, u9, ⟨uf, ust, u11⟩, uhh, uo⟩ := id hUC
  refine And.intro rfl ?_
  refine And.intro (zA_40 hS) (zrd (v := m) hm ?_)
  refine And.intro (by omega) ⟨fun h4 => ?_, (fun h4 => False.elim (by omega))⟩
  refine And.intro (zA_40 hS) (zrdR (v := some k) hl ?_)
  refine And.intro (zDX hD 0 rfl) (zrd (v := (cuSc w pc)) u9 ?_)
  refine hQ _ (by omega))
def T_Z_ex : ZT := fun args I L R S Q => ∃ (k : Nat) (m : Nat) (w : List CuR) (pc : Nat) (nr : Nat) (rf : Nat → Nat → Int) (bn : Int) (al : Int), args = [zvr 40] ∧ (zSh S) ∧ (zRs R) ∧ (I 40 14 = m) ∧ (1 ≤ m ∧ m ≤ 10) ∧ (R 40 12 = some k) ∧ (zDy zT1 zF1 k R S) ∧ (k = 106 ∨ k = 118) ∧ (zUC k w pc nr rf bn al I) ∧ (al = 0 ∨ al = 1) ∧ ∀ (v : Int), (v = if al = 1 ∧ ((cuAA w pc).length : Int) = 0 ∧ (cuSc w pc : Int) = 0 ∧ viN (cuAl w nr rf) = 0 then 1 else 0) → Q (some (zvi (v))) I L R S
theorem sn_Z_ex : ZSnd 2 11 17 T_Z_ex := ZSnd.of (zT11_17 1) (by
  rintro args I L R S Q hz ⟨k, m, w, pc, nr, rf, bn, al, rfl, hS, hR, hm, hm1, hl, hD, hk, hUC, hal, hQ⟩
  have hk106 : 106 ≤ k := by omega
  have hk118 : k ≤ 118 := by omega
  obtain ⟨⟨⟨u0, u3, u4⟩, ul, uG, uq, uh, ua⟩, uw, up, uaa, u9, ⟨uf, ust, u11⟩, uhh, uo⟩ := id hUC
  have hn11 := zUC_n hUC
  have hz11 := hz.1 k 11
  rw [hn11] at hz11
  have hz9 := hz.1 k 9
  rw [u9] at hz9
  refine And.intro rfl ?_
  refine And.intro (zA_40 hS) (zrd (v := m) hm ?_)
  refine And.intro (by omega) ⟨(fun h4 => False.elim (by omega)), fun h4 => ?_⟩
  refine And.intro (zA_40 hS) (zrdR (v := some k) hl ?_)
  refine And.intro (zDX hD 0 rfl) ⟨_, sn_U_exa.up (by decide), ?_⟩
  refine ⟨k, al, (cuAA w pc).length, (cuSc w pc), (viN (cuAl w nr rf)), rfl, hS, hR, hD, (by first | exact hk | (clear hQ; grind [xu])), ⟨u3, hal⟩, uaa.2.1, u9, hn11, (by omega), ?_⟩
  intro v11o p11hv
  refine And.intro (by omega) ⟨fun h14 => ?_, fun h14 => ?_⟩
  · refine And.intro (Or.inl rfl) ?_
    refine hQ _ (by first | (rw [if_pos ⟨by omega, by omega, by omega, by omega⟩]) | (rw [if_neg (by omega)]))
  · refine And.intro (Or.inr rfl) ?_
    refine hQ _ (by first | (rw [if_pos ⟨by omega, by omega, by omega, by omega⟩]) | (rw [if_neg (by omega)])))
def T_Z_dr : ZT := fun args I L R S Q => ∃ (k : Nat) (m : Nat) (w : List CuR) (pc : Nat) (nr : Nat) (rf : Nat → Nat → Int) (bn : Int) (al : Int) (a : Int) (b : Int), args = [zvr 40, zvi a, zvi b] ∧ (zSh S) ∧ (zRs R) ∧ (I 40 14 = m) ∧ (1 ≤ m ∧ m ≤ 10) ∧ (R 40 12 = some k) ∧ (zDy zT1 zF1 k R S) ∧ (k = 106 ∨ k = 118) ∧ (zUC k w pc nr rf bn al I) ∧ (r32 a ∧ r32 b) ∧ ∀ (v : Int) (I' : ZI), (v = (if (0 ≤ a ∧ a ≤ 6) ∧ 0 ≤ b ∧ b < (dTx w a).length then wAt (dTx w a) b.toNat else -1)) → (∀ c j : Nat, ¬ (c = k ∧ j = 17) → ¬ c = k + 11 → I' c j = I c j) → Q (some (zvi (v))) I' L R S
theorem sn_Z_dr : ZSnd 5 11 13 T_Z_dr := ZSnd.of (zT11_13 4) (by
  rintro args I L R S Q hz ⟨k, m, w, pc, nr, rf, bn, al, a, b, rfl, hS, hR, hm, hm1, hl, hD, hk, hUC, hr, hQ⟩
  have hk106 : 106 ≤ k := by omega
  have hk118 : k ≤ 118 := by omega
  obtain ⟨⟨⟨u0, u3, u4⟩, ul, uG, uq, uh, ua⟩, uw, up, uaa, u9, ⟨uf, ust, u11⟩, uhh, uo⟩ := id hUC
  refine And.intro rfl ?_
  refine And.intro (zA_40 hS) (zrd (v := m) hm ?_)
  refine And.intro (by omega) ⟨fun h4 => ?_, (fun h4 => False.elim (by omega))⟩
  refine And.intro (zA_40 hS) (zrdR (v := some k) hl ?_)
  refine And.intro (zDX hD 0 rfl) ⟨_, sn_U_dlt.up (by decide), ?_⟩
  refine ⟨k, w, (a : Int), (b : Int), rfl, hS, hR, hD, (by first | exact hk | (clear hQ; grind [xu])), (by omega), (by clear hQ; grind [xu]), (by clear hQ; grind [xu]), (by clear hQ; grind [xu]), (by omega), (by omega), ?_⟩
  intro v17o I17o p17hv p17bfr
  refine hQ _ _ p17hv (fun c j h0 h1 => ((p17bfr c j h0 h1).trans rfl)))
def T_Z_re : ZT := fun args I L R S Q => ∃ (k : Nat) (m : Nat) (w : List CuR) (pc : Nat) (nr : Nat) (rf : Nat → Nat → Int) (bn : Int) (al : Int) (a : Int), args = [zvr 40, zvi a] ∧ (zSh S) ∧ (zRs R) ∧ (I 40 14 = m) ∧ (1 ≤ m ∧ m ≤ 10) ∧ (R 40 12 = some k) ∧ (zDy zT1 zF1 k R S) ∧ (k = 106 ∨ k = 118) ∧ (zUC k w pc nr rf bn al I) ∧ (r32 a) ∧ ∀ (v : Int) (I' : ZI), (v = if 0 ≤ a ∧ a ≤ 6 then 1 else -1) → (∀ c j : Nat, ¬ (c = k ∧ j = 17) → ¬ (c = k ∧ j = 18) → ¬ c = k + 11 → I' c j = I c j) → Q (some (zvi (v))) I' L R S
theorem sn_Z_re : ZSnd 5 11 39 T_Z_re := ZSnd.of (zT11_39 4) (by
  rintro args I L R S Q hz ⟨k, m, w, pc, nr, rf, bn, al, a, rfl, hS, hR, hm, hm1, hl, hD, hk, hUC, hr, hQ⟩
  have hk106 : 106 ≤ k := by omega
  have hk118 : k ≤ 118 := by omega
  obtain ⟨⟨⟨u0, u3, u4⟩, ul, uG, uq, uh, ua⟩, uw, up, uaa, u9, ⟨uf, ust, u11⟩, uhh, uo⟩ := id hUC
  refine And.intro rfl ?_
  refine And.intro (zA_40 hS) (zrd (v := m) hm ?_)
  refine And.intro (by omega) ⟨fun h4 => ?_, (fun h4 => False.elim (by omega))⟩
  refine And.intro (zA_40 hS) (zrdR (v := some k) hl ?_)
  refine And.intro (zDX hD 0 rfl) ⟨_, sn_U_rbk.up (by decide), ?_⟩
  refine ⟨k, w, (a : Int), rfl, hS, hR, hD, (by first | exact hk | (clear hQ; grind [xu])), (by omega), (by clear hQ; grind [xu]), (by clear hQ; grind [xu]), (by clear hQ; grind [xu]), (by omega), (by omega), ?_⟩
  intro v16o I16o p16hv p16bfr
  refine hQ _ _ p16hv (fun c j h0 h1 h2 => ((p16bfr c j h0 h1 h2).trans rfl)))
