/-! cu2 -/
def T_U_cls : ZT := fun args I L R S Q => ∃ (k : Nat) (w : List CuR) (a : Int) (i : Nat), args = [zvr k, zvi a] ∧ (zSh S) ∧ (zRs R) ∧ (zDy zT1 zF1 k R S) ∧ (k = 106 ∨ k = 118) ∧ (zUw k w I) ∧ (w.length ≤ 60) ∧ (cuG w) ∧ (a = i ∧ i < w.length) ∧ ∀ (v : Int), (v = cg w i 0) → (0 ≤ v ∧ v ≤ 3) → Q (some (zvi (v))) I L R S
theorem sn_U_cls : ZSnd 2 1 7 T_U_cls := ZSnd.of (zT1_7 1) (by
  rintro args I L R S Q hz ⟨k, w, a, i, rfl, hS, hR, hD, hk, hW, hl, hG, hi, hQ⟩
  have hk106 : 106 ≤ k := by omega
  have hk118 : k ≤ 118 := by omega
  have hT1 := zUw_T hW hl
  have hN := hT1.2.1
  have hg := hG i hi.2
  refine And.intro rfl ?_
  refine And.intro (zDX hD 0 rfl) (zrdR (v := some (k + 1)) (zDR hD 0 rfl) ?_)
  refine And.intro (zDX hD 1 rfl) ⟨_, sn_A_at.up (by decide), ?_⟩
  refine ⟨(k + 1), 60, w.length, (cg w), i, 0, (a : Int), (0 : Int), rfl, hS, hR, (zRw_1_1 hD), (by first | exact (zRT_fr hT1 (fun c j h => rfl)) | (clear hQ; grind [xu])), (by omega), (by omega), ?_⟩
  intro v6o p6hv p6bhr
  refine hQ _ (by omega) (by omega))
def T_U_nos : ZT := fun args I L R S Q => ∃ (k : Nat) (w : List CuR) (a : Int) (i : Nat), args = [zvr k, zvi a] ∧ (zSh S) ∧ (zRs R) ∧ (zDy zT1 zF1 k R S) ∧ (k = 106 ∨ k = 118) ∧ (zUw k w I) ∧ (w.length ≤ 60) ∧ (cuG w) ∧ (a = i ∧ i < w.length) ∧ ∀ (v : Int), (v = cg w i 1) → (0 ≤ v ∧ v ≤ 11) → Q (some (zvi (v))) I L R S
theorem sn_U_nos : ZSnd 2 1 39 T_U_nos := ZSnd.of (zT1_39 1) (by
  rintro args I L R S Q hz ⟨k, w, a, i, rfl, hS, hR, hD, hk, hW, hl, hG, hi, hQ⟩
  have hk106 : 106 ≤ k := by omega
  have hk118 : k ≤ 118 := by omega
  have hT1 := zUw_T hW hl
  have hN := hT1.2.1
  have hg := hG i hi.2
  refine And.intro rfl ?_
  refine And.intro (zDX hD 0 rfl) (zrdR (v := some (k + 1)) (zDR hD 0 rfl) ?_)
  refine And.intro (zDX hD 1 rfl) ⟨_, sn_A_at.up (by decide), ?_⟩
  refine ⟨(k + 1), 60, w.length, (cg w), i, 1, (a : Int), (1 : Int), rfl, hS, hR, (zRw_1_1 hD), (by first | exact (zRT_fr hT1 (fun c j h => rfl)) | (clear hQ; grind [xu])), (by omega), (by omega), ?_⟩
  intro v6o p6hv p6bhr
  refine hQ _ (by omega) (by omega))
def T_U_los : ZT := fun args I L R S Q => ∃ (k : Nat) (w : List CuR) (a : Int) (i : Nat), args = [zvr k, zvi a] ∧ (zSh S) ∧ (zRs R) ∧ (zDy zT1 zF1 k R S) ∧ (k = 106 ∨ k = 118) ∧ (zUw k w I) ∧ (w.length ≤ 60) ∧ (cuG w) ∧ (a = i ∧ i < w.length) ∧ ∀ (v : Int), (v = cg w i 2) → (0 ≤ v ∧ v ≤ 3) → Q (some (zvi (v))) I L R S
theorem sn_U_los : ZSnd 2 1 36 T_U_los := ZSnd.of (zT1_36 1) (by
  rintro args I L R S Q hz ⟨k, w, a, i, rfl, hS, hR, hD, hk, hW, hl, hG, hi, hQ⟩
  have hk106 : 106 ≤ k := by omega
  have hk118 : k ≤ 118 := by omega
  have hT1 := zUw_T hW hl
  have hN := hT1.2.1
  have hg := hG i hi.2
  refine And.intro rfl ?_
  refine And.intro (zDX hD 0 rfl) (zrdR (v := some (k + 1)) (zDR hD 0 rfl) ?_)
  refine And.intro (zDX hD 1 rfl) ⟨_, sn_A_at.up (by decide), ?_⟩
  refine ⟨(k + 1), 60, w.length, (cg w), i, 2, (a : Int), (2 : Int), rfl, hS, hR, (zRw_1_1 hD), (by first | exact (zRT_fr hT1 (fun c j h => rfl)) | (clear hQ; grind [xu])), (by omega), (by omega), ?_⟩
  intro v6o p6hv p6bhr
  refine hQ _ (by omega) (by omega))
def T_U_cop : ZT := fun args I L R S Q => ∃ (k : Nat) (w : List CuR) (a : Int) (i : Nat), args = [zvr k, zvi a] ∧ (zSh S) ∧ (zRs R) ∧ (zDy zT1 zF1 k R S) ∧ (k = 106 ∨ k = 118) ∧ (zUw k w I) ∧ (w.length ≤ 60) ∧ (cuG w) ∧ (a = i ∧ i < w.length) ∧ ∀ (v : Int), ((v = 1 ∧ cg w i 0 ≠ 3) ∨ (v = 0 ∧ cg w i 0 = 3)) → Q (some (zvi (v))) I L R S
theorem sn_U_cop : ZSnd 3 1 28 T_U_cop := ZSnd.of (zT1_28 2) (by
  rintro args I L R S Q hz ⟨k, w, a, i, rfl, hS, hR, hD, hk, hW, hl, hG, hi, hQ⟩
  have hk106 : 106 ≤ k := by omega
  have hk118 : k ≤ 118 := by omega
  have hT1 := zUw_T hW hl
  have hN := hT1.2.1
  refine And.intro rfl ?_
  refine And.intro (zDX hD 0 rfl) ⟨_, sn_U_cls.up (by decide), ?_⟩
  refine ⟨_, w, (a : Int), i, rfl, hS, hR, hD, (by first | exact hk | (clear hQ; grind [xu])), (by first | exact (zUw_fr hW (fun c j h => rfl)) | (clear hQ; grind [xu])), (by omega), (by first | exact hG | (clear hQ; grind [xu])), (by omega), ?_⟩
  intro v2o p2hv p2bhv2
  refine And.intro ⟨(by omega), (zRb rfl)⟩ ⟨fun h6 => ?_, fun h6 => ?_⟩
  · refine And.intro (Or.inl rfl) ?_
    refine hQ _ (by clear hQ; grind [xu])
  · refine And.intro (Or.inr rfl) ?_
    refine hQ _ (by clear hQ; grind [xu]))
def T_U_top : ZT := fun args I L R S Q => ∃ (k : Nat) (w : List CuR) (a : Int) (i : Nat), args = [zvr k, zvi a] ∧ (zSh S) ∧ (zRs R) ∧ (zDy zT1 zF1 k R S) ∧ (k = 106 ∨ k = 118) ∧ (zUw k w I) ∧ (w.length ≤ 60) ∧ (cuG w) ∧ (a = i ∧ i < w.length) ∧ ∀ (v : Int), (v = cuTp w i) → (0 ≤ v ∧ v ≤ 4) → Q (some (zvi (v))) I L R S
theorem sn_U_top : ZSnd 3 1 51 T_U_top := ZSnd.of (zT1_51 2) (by
  rintro args I L R S Q hz ⟨k, w, a, i, rfl, hS, hR, hD, hk, hW, hl, hG, hi, hQ⟩
  have hk106 : 106 ≤ k := by omega
  have hk118 : k ≤ 118 := by omega
  have hT1 := zUw_T hW hl
  have hN := hT1.2.1
  refine And.intro rfl ?_
  refine And.intro (zDX hD 0 rfl) ⟨_, sn_U_los.up (by decide), ?_⟩
  refine ⟨_, w, (a : Int), i, rfl, hS, hR, hD, (by first | exact hk | (clear hQ; grind [xu])), (by first | exact (zUw_fr hW (fun c j h => rfl)) | (clear hQ; grind [xu])), (by omega), (by first | exact hG | (clear hQ; grind [xu])), (by omega), ?_⟩
  intro v2o p2hv p2bhv2
  refine And.intro (zDX hD 0 rfl) ⟨_, sn_U_cls.up (by decide), ?_⟩
  refine ⟨_, w, (a : Int), i, rfl, hS, hR, hD, (by first | exact hk | (clear hQ; grind [xu])), (by first | exact (zUw_fr hW (fun c j h => rfl)) | (clear hQ; grind [xu])), (by omega), (by first | exact hG | (clear hQ; grind [xu])), (by omega), ?_⟩
  intro v7o p7hv p7bhv2
  refine And.intro ⟨(by omega), (zRb rfl)⟩ ⟨fun h11 => ?_, fun h11 => ?_⟩
  · refine hQ _ (by unfold cuTp; first | (rw [if_pos (by omega)]; omega) | (rw [if_neg (by omega)]; omega)) (by omega)
  · refine hQ _ (by unfold cuTp; first | (rw [if_pos (by omega)]; omega) | (rw [if_neg (by omega)]; omega)) (by omega))
def T_U_rad : ZT := fun args I L R S Q => ∃ (k : Nat) (w : List CuR) (a : Int) (i : Nat), args = [zvr k, zvi a] ∧ (zSh S) ∧ (zRs R) ∧ (zSt I L) ∧ (zDy zT1 zF1 k R S) ∧ (k = 106 ∨ k = 118) ∧ (zUw k w I) ∧ (w.length ≤ 60) ∧ (cuG w) ∧ (a = i ∧ i < w.length) ∧ ∀ (v : Int), (v = cuRa (cg w i 0)) → (0 ≤ v ∧ v ≤ 300) → Q (some (zvi (v))) I L R S
theorem sn_U_rad : ZSnd 3 1 46 T_U_rad := ZSnd.of (zT1_46 2) (by
  rintro args I L R S Q hz ⟨k, w, a, i, rfl, hS, hR, hT, hD, hk, hW, hl, hG, hi, hQ⟩
  have hk106 : 106 ≤ k := by omega
  have hk118 : k ≤ 118 := by omega
  have hT1 := zUw_T hW hl
  have hN := hT1.2.1
  refine And.intro rfl ?_
  refine And.intro (zDX hD 0 rfl) ⟨_, sn_U_cls.up (by decide), ?_⟩
  refine ⟨_, w, (a : Int), i, rfl, hS, hR, hD, (by first | exact hk | (clear hQ; grind [xu])), (by first | exact (zUw_fr hW (fun c j h => rfl)) | (clear hQ; grind [xu])), (by omega), (by first | exact hG | (clear hQ; grind [xu])), (by omega), ?_⟩
  intro v2o p2hv p2bhv2
  refine And.intro (by omega) ⟨(fun h7 => False.elim (by omega)), fun h7 => ?_⟩
  refine And.intro (zN_3 hS) (zrdN (v := 4) (zV_3 hS) ?_)
  refine And.intro ⟨(by omega), (zRb rfl)⟩ ⟨(fun h15 => False.elim (by omega)), fun h15 => ?_⟩
  refine And.intro (zP_3 hS (by omega) (by omega)) (fun v22 e22 r22 => ?_)
  have f22 : v22 = cuRa (cg w i 0) := (e22.trans ((zSt_ra hT (i := v2o.toNat) (by omega)).trans (by rw [p2hv, Int.toNat_of_nonneg (by have := (hG i hi.2).1; omega)])))
  refine hQ _ (by omega) (by have := cuRa_b (c := cg w i 0); omega))
def T_U_edg : ZT := fun args I L R S Q => ∃ (k : Nat) (w : List CuR) (a : Int) (i : Nat) (b : Int) (x : Nat) (d : Int) (e : Nat), args = [zvr k, zvi a, zvi b, zvi d] ∧ (zSh S) ∧ (zRs R) ∧ (zDy zT1 zF1 k R S) ∧ (k = 106 ∨ k = 118) ∧ (zUw k w I) ∧ (w.length ≤ 60) ∧ (cuG w) ∧ (a = i ∧ i < w.length) ∧ (b = x ∧ x ≤ 1) ∧ (d = e ∧ e ≤ 1) ∧ ∀ (v : Int), (v = cuE w i x e) → (0 ≤ v ∧ v ≤ 15000) → Q (some (zvi (v))) I L R S
theorem sn_U_edg : ZSnd 2 1 12 T_U_edg := ZSnd.of (zT1_12 1) (by
  rintro args I L R S Q hz ⟨k, w, a, i, b, x, d, e, rfl, hS, hR, hD, hk, hW, hl, hG, hi, hx, he, hQ⟩
  have hk106 : 106 ≤ k := by omega
  have hk118 : k ≤ 118 := by omega
  have hT1 := zUw_T hW hl
  have hN := hT1.2.1
  have hg := hG i hi.2
  obtain ⟨cc, hcc⟩ : ∃ cc : Nat, cc = (if e = 1 then 4 else 3) := ⟨_, rfl⟩
  have hcc2 : (e = 1 → cc = 4) ∧ (e ≠ 1 → cc = 3) := (by by_cases q : e = 1; (rw [if_pos q] at hcc; omega); (rw [if_neg q] at hcc; omega))
  have hgc : 0 ≤ cg w i cc ∧ cg w i cc ≤ 255 := (by have z : cc = 3 ∨ cc = 4 := (by omega); rcases z with rfl | rfl; omega; omega)
  refine And.intro rfl ?_
  refine And.intro (zDX hD 0 rfl) (zrdR (v := some (k + 1)) (zDR hD 0 rfl) ?_)
  refine And.intro (by omega) ⟨fun h6 => ?_, fun h6 => ?_⟩
  · refine And.intro (zDX hD 1 rfl) ⟨_, sn_A_at.up (by decide), ?_⟩
    refine ⟨(k + 1), 60, w.length, (cg w), i, cc, (a : Int), (3 : Int), rfl, hS, hR, (zRw_1_1 hD), (by first | exact (zRT_fr hT1 (fun c j h => rfl)) | (clear hQ; grind [xu])), (by omega), (by omega), ?_⟩
    intro v14o p14hv p14bhr
    have g14 : 0 ≤ v14o ∧ v14o ≤ 255 := (by omega)
    refine And.intro (by omega) ⟨fun h23 => ?_, fun h23 => ?_⟩
    · refine And.intro ⟨(by omega), (zRb rfl), (by decide)⟩ (zdv (by omega) (fun q38 e38 => ?_))
      refine hQ _ ?_ (by omega)
      · unfold cuE
        rw [← hcc, ← p14hv]
        first
        | (rw [if_pos (by omega)]; omega)
        | (rw [if_neg (by omega)]; omega)
    · refine And.intro ⟨(by omega), (zRb rfl), (by decide)⟩ (zdv (by omega) (fun q30 e30 => ?_))
      refine hQ _ ?_ (by omega)
      · unfold cuE
        rw [← hcc, ← p14hv]
        first
        | (rw [if_pos (by omega)]; omega)
        | (rw [if_neg (by omega)]; omega)
  · refine And.intro (zDX hD 1 rfl) ⟨_, sn_A_at.up (by decide), ?_⟩
    refine ⟨(k + 1), 60, w.length, (cg w), i, cc, (a : Int), (4 : Int), rfl, hS, hR, (zRw_1_1 hD), (by first | exact (zRT_fr hT1 (fun c j h => rfl)) | (clear hQ; grind [xu])), (by omega), (by omega), ?_⟩
    intro v14o p14hv p14bhr
    have g14 : 0 ≤ v14o ∧ v14o ≤ 255 := (by omega)
    refine And.intro (by omega) ⟨fun h23 => ?_, fun h23 => ?_⟩
    · refine And.intro ⟨(by omega), (zRb rfl), (by decide)⟩ (zdv (by omega) (fun q38 e38 => ?_))
      refine hQ _ ?_ (by omega)
      · unfold cuE
        rw [← hcc, ← p14hv]
        first
        | (rw [if_pos (by omega)]; omega)
        | (rw [if_neg (by omega)]; omega)
    · refine And.intro ⟨(by omega), (zRb rfl), (by decide)⟩ (zdv (by omega) (fun q30 e30 => ?_))
      refine hQ _ ?_ (by omega)
      · unfold cuE
        rw [← hcc, ← p14hv]
        first
        | (rw [if_pos (by omega)]; omega)
        | (rw [if_neg (by omega)]; omega))
def T_U_gap : ZT := fun args I L R S Q => ∃ (a : Int) (b : Int) (c : Int) (d : Int) (e : Int), args = [zvi a, zvi b, zvi c, zvi d, zvi e] ∧ ((0 ≤ a ∧ a ≤ 15000) ∧ (0 ≤ b ∧ b ≤ 15000) ∧ (0 ≤ c ∧ c ≤ 15000) ∧ (0 ≤ d ∧ d ≤ 15000) ∧ 0 ≤ e ∧ e ≤ 1000) ∧ ∀ (v : Int), (v = cuGp a b c d e) → (0 ≤ v ∧ v ≤ 15000) → Q (some (zvl (v))) I L R S
theorem sn_U_gap : ZSnd 1 1 22 T_U_gap := ZSnd.of (zT1_22 0) (by
  rintro args I L R S Q hz ⟨a, b, c, d, e, rfl, hb, hQ⟩
  refine And.intro rfl ?_
  refine And.intro ⟨(by omega), (by omega)⟩ ?_
  refine And.intro ⟨(zRb rfl), (by omega)⟩ ?_
  refine And.intro (by omega) ?_
  refine hQ _ (by unfold cuGp; first | rfl | omega) (by omega))
def T_U_sqb : ZT := fun args I L R S Q => ∃ (k : Nat) (w : List CuR) (a : Int) (i : Nat) (b : Int) (j : Nat) (e : Int), args = [zvr k, zvi a, zvi b, zvi e] ∧ (zSh S) ∧ (zRs R) ∧ (zDy zT1 zF1 k R S) ∧ (k = 106 ∨ k = 118) ∧ (zUw k w I) ∧ (w.length ≤ 60) ∧ (cuG w) ∧ (a = i ∧ i < w.length) ∧ (b = j ∧ j < w.length) ∧ (0 ≤ e ∧ e ≤ 1000) ∧ ∀ (v : Int), (v = cuSq w i j e) → (0 ≤ v ∧ v ≤ 450000000) → Q (some (zvl (v))) I L R S
theorem sn_U_sqb : ZSnd 3 1 48 T_U_sqb := ZSnd.of (zT1_48 2) (by
  rintro args I L R S Q hz ⟨k, w, a, i, b, j, e, rfl, hS, hR, hD, hk, hW, hl, hG, hi, hj, he, hQ⟩
  have hk106 : 106 ≤ k := by omega
  have hk118 : k ≤ 118 := by omega
  have hT1 := zUw_T hW hl
  have hN := hT1.2.1
  refine And.intro rfl ?_
  refine And.intro (zDX hD 0 rfl) ⟨_, sn_U_edg.up (by decide), ?_⟩
  refine ⟨_, w, (a : Int), i, (1 : Int), 1, (0 : Int), 0, rfl, hS, hR, hD, (by first | exact hk | (clear hQ; grind [xu])), (by first | exact (zUw_fr hW (fun c j h => rfl)) | (clear hQ; grind [xu])), (by omega), (by first | exact hG | (clear hQ; grind [xu])), (by omega), (by omega), (by omega), ?_⟩
  intro v4o p4hv p4bhv2
  refine And.intro (zDX hD 0 rfl) ⟨_, sn_U_edg.up (by decide), ?_⟩
  refine ⟨_, w, (a : Int), i, (1 : Int), 1, (1 : Int), 1, rfl, hS, hR, hD, (by first | exact hk | (clear hQ; grind [xu])), (by first | exact (zUw_fr hW (fun c j h => rfl)) | (clear hQ; grind [xu])), (by omega), (by first | exact hG | (clear hQ; grind [xu])), (by omega), (by omega), (by omega), ?_⟩
  intro v11o p11hv p11bhv2
  refine And.intro (zDX hD 0 rfl) ⟨_, sn_U_edg.up (by decide), ?_⟩
  refine ⟨_, w, (b : Int), j, (1 : Int), 1, (0 : Int), 0, rfl, hS, hR, hD, (by first | exact hk | (clear hQ; grind [xu])), (by first | exact (zUw_fr hW (fun c j h => rfl)) | (clear hQ; grind [xu])), (by omega), (by first | exact hG | (clear hQ; grind [xu])), (by omega), (by omega), (by omega), ?_⟩
  intro v18o p18hv p18bhv2
  refine And.intro (zDX hD 0 rfl) ⟨_, sn_U_edg.up (by decide), ?_⟩
  refine ⟨_, w, (b : Int), j, (1 : Int), 1, (1 : Int), 1, rfl, hS, hR, hD, (by first | exact hk | (clear hQ; grind [xu])), (by first | exact (zUw_fr hW (fun c j h => rfl)) | (clear hQ; grind [xu])), (by omega), (by first | exact hG | (clear hQ; grind [xu])), (by omega), (by omega), (by omega), ?_⟩
  intro v25o p25hv p25bhv2
  refine ⟨_, sn_U_gap.up (by decide), ?_⟩
  refine ⟨(v4o : Int), (v11o : Int), (v18o : Int), (v25o : Int), (e : Int), rfl, (by clear hQ; grind [xu]), ?_⟩
  intro v29o p29hv p29bhv2
  have g29 : v29o = cuGx w i j 1 e := (by rw [p29hv, p4hv, p11hv, p18hv, p25hv]; rfl)
  have g29b : 0 ≤ v29o * v29o ∧ v29o * v29o ≤ 15000 * 15000 := (zmb p29bhv2.1 p29bhv2.2 p29bhv2.1 p29bhv2.2)
  refine And.intro (zDX hD 0 rfl) ⟨_, sn_U_edg.up (by decide), ?_⟩
  refine ⟨_, w, (a : Int), i, (0 : Int), 0, (0 : Int), 0, rfl, hS, hR, hD, (by first | exact hk | (clear hQ; grind [xu])), (by first | exact (zUw_fr hW (fun c j h => rfl)) | (clear hQ; grind [xu])), (by omega), (by first | exact hG | (clear hQ; grind [xu])), (by omega), (by omega), (by omega), ?_⟩
  intro v38o p38hv p38bhv2
  refine And.intro (zDX hD 0 rfl) ⟨_, sn_U_edg.up (by decide), ?_⟩
  refine ⟨_, w, (a : Int), i, (0 : Int), 0, (1 : Int), 1, rfl, hS, hR, hD, (by first | exact hk | (clear hQ; grind [xu])), (by first | exact (zUw_fr hW (fun c j h => rfl)) | (clear hQ; grind [xu])), (by omega), (by first | exact hG | (clear hQ; grind [xu])), (by omega), (by omega), (by omega), ?_⟩
  intro v45o p45hv p45bhv2
  refine And.intro (zDX hD 0 rfl) ⟨_, sn_U_edg.up (by decide), ?_⟩
  refine ⟨_, w, (b : Int), j, (0 : Int), 0, (0 : Int), 0, rfl, hS, hR, hD, (by first | exact hk | (clear hQ; grind [xu])), (by first | exact (zUw_fr hW (fun c j h => rfl)) | (clear hQ; grind [xu])), (by omega), (by first | exact hG | (clear hQ; grind [xu])), (by omega), (by omega), (by omega), ?_⟩
  intro v52o p52hv p52bhv2
  refine And.intro (zDX hD 0 rfl) ⟨_, sn_U_edg.up (by decide), ?_⟩
  refine ⟨_, w, (b : Int), j, (0 : Int), 0, (1 : Int), 1, rfl, hS, hR, hD, (by first | exact hk | (clear hQ; grind [xu])), (by first | exact (zUw_fr hW (fun c j h => rfl)) | (clear hQ; grind [xu])), (by omega), (by first | exact hG | (clear hQ; grind [xu])), (by omega), (by omega), (by omega), ?_⟩
  intro v59o p59hv p59bhv2
  refine ⟨_, sn_U_gap.up (by decide), ?_⟩
  refine ⟨(v38o : Int), (v45o : Int), (v52o : Int), (v59o : Int), (e : Int), rfl, (by clear hQ; grind [xu]), ?_⟩
  intro v63o p63hv p63bhv2
  have g63 : v63o = cuGx w i j 0 e := (by rw [p63hv, p38hv, p45hv, p52hv, p59hv]; rfl)
  have g63b : 0 ≤ v63o * v63o ∧ v63o * v63o ≤ 15000 * 15000 := (zmb p63bhv2.1 p63bhv2.2 p63bhv2.1 p63bhv2.2)
  refine hQ _ (by rw [g29, g63]; rfl) (by omega))
