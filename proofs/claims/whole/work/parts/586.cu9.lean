/-! cu9 -/
def T_U_way : ZT := fun args I L R S Q => ∃ (k : Nat) (w : List CuR) (a : Int) (b : Int) (j : Nat), args = [zvr k, zvi a, zvi b] ∧ (zSh S) ∧ (zRs R) ∧ (zDy zT1 zF1 k R S) ∧ (k = 106 ∨ k = 118) ∧ (w.length ≤ 60) ∧ (cuG w) ∧ (zUh k w I) ∧ (a = -1 ∨ (0 ≤ a ∧ a < cuHc w)) ∧ (b = j ∧ j < cuHc w) ∧ ∀ (v : Int), (v = cuWy w a j) → (0 ≤ v ∧ v ≤ 15000) → Q (some (zvi (v))) I L R S
theorem sn_U_way : ZSnd 2 1 55 T_U_way := ZSnd.of (zT1_55 1) (by
  rintro args I L R S Q hz ⟨k, w, a, b, j, rfl, hS, hR, hD, hk, hl, hG, hUh, ha, hj, hQ⟩
  have hk106 : 106 ≤ k := by omega
  have hk118 : k ≤ 118 := by omega
  have hc60 := cuHc_l hl
  obtain ⟨hHc, hHv⟩ := id hUh
  have hwb := cuWy_b hG hj.2 ha
  refine And.intro rfl ?_
  refine And.intro (zDX hD 0 rfl) (zrdR (v := some (k + 8)) (zDR hD 5 rfl) ?_)
  refine And.intro (zDP hD 8 rfl rfl (by omega) (by omega)) (fun v5 e5 r5 => ?_)
  have f5 : v5 = cuHv w j := (e5.trans ((congrArg (I (k + 8)) (by omega)).trans (hHv j (by omega))))
  have f5b : 0 ≤ v5 ∧ v5 ≤ 767 := (by have z := cuHv_b hG hj.2; omega)
  refine Exists.intro _ (And.intro (zinl_ok (zT1_57 0)) (And.intro rfl ?_))
  refine And.intro ⟨r5, (zRb rfl), (by decide)⟩ (zdv (by omega) (fun q6_6 e6_6 => ?_))
  refine And.intro (zDX hD 0 rfl) (zrdR (v := some (k + 8)) (zDR hD 5 rfl) ?_)
  refine And.intro (zDP hD 8 rfl rfl (by omega) (by omega)) (fun v15 e15 r15 => ?_)
  have f15 : v15 = cuHv w j := (e15.trans ((congrArg (I (k + 8)) (by omega)).trans (hHv j (by omega))))
  have f15b : 0 ≤ v15 ∧ v15 ≤ 767 := (by have z := cuHv_b hG hj.2; omega)
  refine Exists.intro _ (And.intro (zinl_ok (zT1_58 0)) (And.intro rfl ?_))
  refine And.intro ⟨r15, (zRb rfl), (by decide)⟩ (zdv (by omega) (fun q6_16 e6_16 => ?_))
  refine And.intro ⟨(by omega), (zRb rfl), (by decide)⟩ (zdv (by omega) (fun q9_16 e9_16 => ?_))
  refine And.intro ⟨(by omega), (zRb rfl)⟩ ⟨fun h23 => ?_, fun h23 => ?_⟩
  · refine And.intro (by omega) (fun v53 e53 => ?_)
    refine And.intro (by omega) (fun v58 e58 => ?_)
    refine And.intro ⟨(by omega), (by omega)⟩ ?_
    refine hQ _ ?_ (by omega)
    · unfold cuWy
      first
      | (rw [if_pos (by omega)]
         first
         | omega
         | (have e1 := cuAs_v (x := 1000 * (cuHv w j % 16)) (v := v53) (fun q => by omega) (fun q => by omega)
            have e2 := cuAs_v (x := 1000 * (cuHv w j / 16 % 16)) (v := v58) (fun q => by omega) (fun q => by omega)
            omega))
      | (rw [if_neg (by omega)]
         have e1 := cuAs_v (x := 1000 * (cuHv w j % 16) - 1000 * (cuHv w a.toNat % 16)) (v := v53) (fun q => by omega) (fun q => by omega)
         have e2 := cuAs_v (x := 1000 * (cuHv w j / 16 % 16) - 1000 * (cuHv w a.toNat / 16 % 16)) (v := v58) (fun q => by omega) (fun q => by omega)
         omega)
  · refine And.intro (zDX hD 0 rfl) (zrdR (v := some (k + 8)) (zDR hD 5 rfl) ?_)
    refine And.intro (zDP hD 8 rfl rfl (by omega) (by omega)) (fun v32 e32 r32 => ?_)
    have f32 : v32 = cuHv w (a).toNat := (e32.trans (hHv (a).toNat (by omega)))
    have f32b : 0 ≤ v32 ∧ v32 ≤ 767 := (by have z := cuHv_b hG (show (a).toNat < cuHc w by omega); omega)
    refine Exists.intro _ (And.intro (zinl_ok (zT1_57 0)) (And.intro rfl ?_))
    refine And.intro ⟨r32, (zRb rfl), (by decide)⟩ (zdv (by omega) (fun q6_33 e6_33 => ?_))
    refine And.intro (zDX hD 0 rfl) (zrdR (v := some (k + 8)) (zDR hD 5 rfl) ?_)
    refine And.intro (zDP hD 8 rfl rfl (by omega) (by omega)) (fun v45 e45 r45 => ?_)
    have f45 : v45 = cuHv w (a).toNat := (e45.trans (hHv (a).toNat (by omega)))
    have f45b : 0 ≤ v45 ∧ v45 ≤ 767 := (by have z := cuHv_b hG (show (a).toNat < cuHc w by omega); omega)
    refine Exists.intro _ (And.intro (zinl_ok (zT1_58 0)) (And.intro rfl ?_))
    refine And.intro ⟨r45, (zRb rfl), (by decide)⟩ (zdv (by omega) (fun q6_46 e6_46 => ?_))
    refine And.intro ⟨(by omega), (zRb rfl), (by decide)⟩ (zdv (by omega) (fun q9_46 e9_46 => ?_))
    refine And.intro (by omega) (fun v53 e53 => ?_)
    refine And.intro (by omega) (fun v58 e58 => ?_)
    refine And.intro ⟨(by omega), (by omega)⟩ ?_
    refine hQ _ ?_ (by omega)
    · unfold cuWy
      first
      | (rw [if_pos (by omega)]
         first
         | omega
         | (have e1 := cuAs_v (x := 1000 * (cuHv w j % 16)) (v := v53) (fun q => by omega) (fun q => by omega)
            have e2 := cuAs_v (x := 1000 * (cuHv w j / 16 % 16)) (v := v58) (fun q => by omega) (fun q => by omega)
            omega))
      | (rw [if_neg (by omega)]
         have e1 := cuAs_v (x := 1000 * (cuHv w j % 16) - 1000 * (cuHv w a.toNat % 16)) (v := v53) (fun q => by omega) (fun q => by omega)
         have e2 := cuAs_v (x := 1000 * (cuHv w j / 16 % 16) - 1000 * (cuHv w a.toNat / 16 % 16)) (v := v58) (fun q => by omega) (fun q => by omega)
         omega))
def T_U_tby : ZT := fun args I L R S Q => ∃ (k : Nat) (w : List CuR) (D : Nat) (x : Int) (d : Nat) (a : Int) (b : Int) (h : Nat), args = [zvr k, zvi x, zvi a, zvi b] ∧ (zSh S) ∧ (zRs R) ∧ (zDy zT1 zF1 k R S) ∧ (k = 106 ∨ k = 118) ∧ (w.length ≤ 60) ∧ (cuG w) ∧ (zUh k w I) ∧ (cuHc w ≤ 8) ∧ (zUt k w D I) ∧ (x = d ∧ d < 2 ^ cuHc w ∧ D ≤ d) ∧ (a = -1 ∨ (0 ≤ a ∧ a < cuHc w)) ∧ (b = h ∧ h < cuHc w ∧ ¬ cuBt d h) ∧ ∀ (v : Int), (v = cuTb w (cuHc w) d a h) → (0 ≤ v ∧ v ≤ 3900000) → Q (some (zvi (v))) I L R S
theorem sn_U_tby : ZSnd 3 1 53 T_U_tby := ZSnd.of (zT1_53 2) (by
  rintro args I L R S Q hz ⟨k, w, D, x, d, a, b, h, rfl, hS, hR, hD, hk, hl, hG, hUh, h8, hUt, hd, ha, hh, hQ⟩
  have hk106 : 106 ≤ k := by omega
  have hk118 : k ≤ 118 := by omega
  have hc60 := cuHc_l hl
  obtain ⟨hHc, hHv⟩ := id hUh
  have hp8 := cuHp8 h8
  have hor : zor (d : Int) (zshl 1 (h : Int)) = ((d + 2 ^ h : Nat) : Int) := (by rcases cuBt_q d (by omega) h (by omega) with y | y; exact absurd y hh.2.2; exact y.2)
  have hlt : d + 2 ^ h < 2 ^ cuHc w := (by rcases cuBt_N (cuHc w) (by omega) d hd.2.1 h hh.2.1 with y | y; exact absurd y hh.2.2; exact y)
  have hpw := Nat.two_pow_pos h
  have htb := cuTt_b (d := d + 2 ^ h) (l := (h : Nat)) hG rfl (Or.inr (by omega))
  have hix := hUt (d + 2 ^ h) h (by omega) hlt hh.2.1
  have hdx := hd.1
  have hbx := hh.1
  have hor2 : zor x (zshl 1 b) = ((d + 2 ^ h : Nat) : Int) := (by rw [hdx, hbx]; exact hor)
  refine And.intro rfl ?_
  refine And.intro (zDX hD 0 rfl) ⟨_, sn_U_way.up (by decide), ?_⟩
  refine ⟨_, w, (a : Int), (b : Int), h, rfl, hS, hR, hD, (by first | exact hk | (clear hQ; grind [xu])), (by omega), (by first | exact hG | (clear hQ; grind [xu])), (by first | exact (zUh_fr hUh (fun c j h => rfl)) | (clear hQ; grind [xu])), (by first | exact ha | (clear hQ; grind [xu])), (by omega), ?_⟩
  intro v3o p3hv p3bhv2
  refine And.intro (zDX hD 0 rfl) (zrdR (v := some (k + 10)) (zDR hD 7 rfl) ?_)
  refine And.intro (zDP hD 10 rfl rfl (by omega) (by omega)) (fun v20 e20 r20 => ?_)
  have f20 : v20 = cuTt w (cuHc w) (d + 2 ^ h) h := (e20.trans ((congrArg (I (k + 10)) (by omega)).trans hix))
  refine hQ _ (by unfold cuTb; omega) (by omega))
def T_U_nol : ZT := fun args I L R S Q => ∃ (k : Nat) (w : List CuR) (D : Nat) (x : Int) (d : Nat) (a : Int), args = [zvr k, zvi x, zvi a] ∧ (zSh S) ∧ (zRs R) ∧ (zDy zT1 zF1 k R S) ∧ (k = 106 ∨ k = 118) ∧ (w.length ≤ 60) ∧ (cuG w) ∧ (zUh k w I) ∧ (cuHc w ≤ 8) ∧ (zUt k w D I) ∧ (x = d ∧ d < 2 ^ cuHc w ∧ D ≤ d) ∧ (a = -1 ∨ (0 ≤ a ∧ a < cuHc w)) ∧ ∀ (v : Int), (v = cuTn w (cuHc w) d a) → (-1 ≤ v ∧ v < cuHc w) → Q (some (zvi (v))) I L R S
theorem sn_U_nol : ZSnd 4 1 40 T_U_nol := ZSnd.loops (zT1_40 3) (by
  rintro args I L R S Q hz ⟨k, w, D, x, d, a, rfl, hS, hR, hD, hk, hl, hG, hUh, h8, hUt, hd, ha, hQ⟩
  have hk106 : 106 ≤ k := by omega
  have hk118 : k ≤ 118 := by omega
  have hc60 := cuHc_l hl
  obtain ⟨hHc, hHv⟩ := id hUh
  have hp8 := cuHp8 h8
  have hdx := hd.1
  refine ⟨[5], fun nM tM lsM stM I1 L1 R1 S1 => match tM with
      | 5 => ∃ (h : Nat) (r : Int), nM = ((61 - h), 0, 0) ∧ lsM = [some (zvr (k)), some (zvi (x)), some (zvi (a)), some (zvi (r)), some (zvi (h)), none] ∧ stM = [] ∧ I1 = I ∧ L1 = L ∧ R1 = R ∧ S1 = S ∧ (h ≤ cuHc w) ∧ (r = cuMg (cuBt d) (cuTb w (cuHc w) d a) h) ∧ (-1 ≤ r ∧ r ≤ 7 ∧ r < h)
      | _ => False, rfl, ?_, ⟨?_, True.intro⟩⟩
  · refine ⟨((61 - (0 : Nat)), 0, 0), [some (zvr (k)), some (zvi (x)), some (zvi (a)), some (zvi (((-1) : Int))), some (zvi ((0 : Nat))), none], ⟨rfl, rfl, rfl, (congrArg (fun z => some (zvi z)) (by omega)), rfl, rfl⟩, 0, (-1), rfl, rfl, rfl, rfl, rfl, rfl, rfl, (by omega), rfl, (by omega)⟩
  · rintro nM lsM stM I1 L1 R1 S1 hz1 ⟨h, r, rfl, rfl, rfl, rfl, rfl, rfl, rfl, hh, hr, hr1⟩
    have hrb := cuMg_b (U := cuBt d) (g := cuTb w (cuHc w) d a) h
    refine And.intro (zDX hD 0 rfl) (zrd (v := (cuHc w)) hHc ?_)
    refine And.intro ⟨(by omega), (by omega)⟩ ⟨fun h11 => ?_, fun h11 => ?_⟩
    · refine hQ _ (by have e : h = cuHc w := (by omega); subst e; exact hr) (by omega)
    · have t11 : h + 1 ≤ cuHc w := (by omega)
      have t11b : zand (zshr x h) 1 = ((d / 2 ^ h % 2 : Nat) : Int) := (by rw [hdx]; exact cuBt_z d (by omega) h (by omega))
      have b19 : (zand (zshr x h) 1) = (zshr x h) % 2 := zand1 _
      refine And.intro zr_and ⟨fun h20 => ?_, fun h20 => ?_⟩
      · have t20 : cuBt d h := (by unfold cuBt; omega)
        refine And.intro (zRb rfl) (zbt rfl ?_)
        refine ⟨((61 - (h + 1)), 0, 0), zlt6 (by omega), [some (zvr (k)), some (zvi (x)), some (zvi (a)), some (zvi (r)), some (zvi ((h + 1))), none], ⟨rfl, rfl, rfl, rfl, rfl, rfl⟩, (h + 1), r, rfl, rfl, rfl, rfl, rfl, rfl, rfl, (by omega), ?_, (by omega)⟩
        · first
          | exact hr.trans (cuMg_n (fun q => q.1 t20)).symm
          | exact Eq.symm (cuMg_y (U := cuBt d) (g := cuTb w (cuHc w) d a) ⟨t20, Or.inl (by omega)⟩)
          | exact Eq.symm (cuMg_y (U := cuBt d) (g := cuTb w (cuHc w) d a) ⟨t20, Or.inr (by rw [← p45hv, ← hr, ← p52hv]; omega)⟩)
          | (rw [cuMg_n]
             · exact hr
             · rintro ⟨_, q | q⟩
               · omega
               · rw [← p45hv, ← hr, ← p52hv] at q; omega)
      · have t20 : ¬ cuBt d h := (by unfold cuBt; omega)
        refine And.intro (zRb rfl) (zbf rfl ?_)
        refine And.intro ⟨(by omega), (zRb rfl)⟩ ⟨fun h37 => ?_, fun h37 => ?_⟩
        · refine ⟨((61 - (h + 1)), 0, 0), zlt6 (by omega), [some (zvr (k)), some (zvi (x)), some (zvi (a)), some (zvi (h)), some (zvi ((h + 1))), none], ⟨rfl, rfl, rfl, rfl, rfl, rfl⟩, (h + 1), h, rfl, rfl, rfl, rfl, rfl, rfl, rfl, (by omega), ?_, (by omega)⟩
          · first
            | exact hr.trans (cuMg_n (fun q => q.1 t20)).symm
            | exact Eq.symm (cuMg_y (U := cuBt d) (g := cuTb w (cuHc w) d a) ⟨t20, Or.inl (by omega)⟩)
            | exact Eq.symm (cuMg_y (U := cuBt d) (g := cuTb w (cuHc w) d a) ⟨t20, Or.inr (by rw [← p45hv, ← hr, ← p52hv]; omega)⟩)
            | (rw [cuMg_n]
               · exact hr
               · rintro ⟨_, q | q⟩
                 · omega
                 · rw [← p45hv, ← hr, ← p52hv] at q; omega)
        · refine And.intro (zDX hD 0 rfl) ⟨_, sn_U_tby.up (by decide), ?_⟩
          refine ⟨_, w, D, (x : Int), d, (a : Int), (h : Int), h, rfl, hS, hR, hD, (by first | exact hk | (clear hQ; grind [xu])), (by omega), (by first | exact hG | (clear hQ; grind [xu])), (by first | exact (zUh_fr hUh (fun c j h => rfl)) | (clear hQ; grind [xu])), (by omega), (by first | exact (zUt_fr hUt (fun c j h => rfl)) | (clear hQ; grind [xu])), (by first | exact hd | (clear hQ; grind [xu])), (by first | exact ha | (clear hQ; grind [xu])), ⟨by omega, by omega, t20⟩, ?_⟩
          intro v45o p45hv p45bhv2
          refine And.intro (zDX hD 0 rfl) ⟨_, sn_U_tby.up (by decide), ?_⟩
          refine ⟨_, w, D, (x : Int), d, (a : Int), (r : Int), r.toNat, rfl, hS, hR, hD, (by first | exact hk | (clear hQ; grind [xu])), (by omega), (by first | exact hG | (clear hQ; grind [xu])), (by first | exact (zUh_fr hUh (fun c j h => rfl)) | (clear hQ; grind [xu])), (by omega), (by first | exact (zUt_fr hUt (fun c j h => rfl)) | (clear hQ; grind [xu])), (by first | exact hd | (clear hQ; grind [xu])), (by first | exact ha | (clear hQ; grind [xu])), (by rcases hrb with z | z; (exfalso; omega); exact ⟨by omega, by omega, by rw [hr]; exact z.2.2⟩), ?_⟩
          intro v52o p52hv p52bhv2
          refine And.intro ⟨(by omega), (by omega)⟩ ⟨fun h55 => ?_, fun h55 => ?_⟩
          · refine ⟨((61 - (h + 1)), 0, 0), zlt6 (by omega), [some (zvr (k)), some (zvi (x)), some (zvi (a)), some (zvi (r)), some (zvi ((h + 1))), none], ⟨rfl, rfl, rfl, rfl, rfl, rfl⟩, (h + 1), r, rfl, rfl, rfl, rfl, rfl, rfl, rfl, (by omega), ?_, (by omega)⟩
            · first
              | exact hr.trans (cuMg_n (fun q => q.1 t20)).symm
              | exact Eq.symm (cuMg_y (U := cuBt d) (g := cuTb w (cuHc w) d a) ⟨t20, Or.inl (by omega)⟩)
              | exact Eq.symm (cuMg_y (U := cuBt d) (g := cuTb w (cuHc w) d a) ⟨t20, Or.inr (by rw [← p45hv, ← hr, ← p52hv]; omega)⟩)
              | (rw [cuMg_n]
                 · exact hr
                 · rintro ⟨_, q | q⟩
                   · omega
                   · rw [← p45hv, ← hr, ← p52hv] at q; omega)
          · refine ⟨((61 - (h + 1)), 0, 0), zlt6 (by omega), [some (zvr (k)), some (zvi (x)), some (zvi (a)), some (zvi (h)), some (zvi ((h + 1))), none], ⟨rfl, rfl, rfl, rfl, rfl, rfl⟩, (h + 1), h, rfl, rfl, rfl, rfl, rfl, rfl, rfl, (by omega), ?_, (by omega)⟩
            · first
              | exact hr.trans (cuMg_n (fun q => q.1 t20)).symm
              | exact Eq.symm (cuMg_y (U := cuBt d) (g := cuTb w (cuHc w) d a) ⟨t20, Or.inl (by omega)⟩)
              | exact Eq.symm (cuMg_y (U := cuBt d) (g := cuTb w (cuHc w) d a) ⟨t20, Or.inr (by rw [← p45hv, ← hr, ← p52hv]; omega)⟩)
              | (rw [cuMg_n]
                 · exact hr
                 · rintro ⟨_, q | q⟩
                   · omega
                   · rw [← p45hv, ← hr, ← p52hv] at q; omega))
def T_U_ofh : ZT := fun args I L R S Q => ∃ (k : Nat) (w : List CuR), args = [zvr k] ∧ (zSh S) ∧ (zRs R) ∧ (zDy zT1 zF1 k R S) ∧ (k = 106 ∨ k = 118) ∧ (w.length ≤ 60) ∧ (cuG w) ∧ (zUh k w I) ∧ (cuHc w ≤ 8) ∧ ∀ (I' : ZI), (zUo k w I') → (∀ c j : Nat, ¬ c = k + 9 → ¬ c = k + 10 → I' c j = I c j) → Q none I' L R S
theorem sn_U_ofh : ZSnd 5 1 42 T_U_ofh := ZSnd.loops (zT1_42 4) (by
  rintro args I L R S Q hz ⟨k, w, rfl, hS, hR, hD, hk, hl, hG, hUh, h8, hQ⟩
  have hk106 : 106 ≤ k := by omega
  have hk118 : k ≤ 118 := by omega
  have hc60 := cuHc_l hl
  obtain ⟨hHc, hHv⟩ := id hUh
  have hp8 := cuHp8 h8
  have hsh : zshl 1 (cuHc w : Int) = ((2 ^ cuHc w : Nat) : Int) := zshl1 (cuHc w) (by omega)
  refine ⟨[11, 17, 81], fun nM tM lsM stM I1 L1 R1 S1 => match tM with
      | 11 => ∃ (d : Nat), nM = (3, d, 100) ∧ lsM = [some (zvr (k)), none, some (zvi (d)), none, none] ∧ stM = [] ∧ L1 = L ∧ R1 = R ∧ S1 = S ∧ (d < 2 ^ cuHc w) ∧ (zUt k w d I1) ∧ (∀ c j : Nat, ¬ c = k + 10 → I1 c j = I c j)
      | 17 => ∃ (d : Nat) (q : Nat), nM = (3, d, (10 - q)) ∧ lsM = [some (zvr (k)), none, some (zvi (d)), some (zvi (q)), none] ∧ stM = [] ∧ L1 = L ∧ R1 = R ∧ S1 = S ∧ (0 < d ∧ d < 2 ^ cuHc w) ∧ (q ≤ cuHc w) ∧ (zUt k w d I1) ∧ (∀ l : Nat, l < q → I1 (k + 10) (8 * d + l) = cuTt w (cuHc w) d l) ∧ (∀ c j : Nat, ¬ c = k + 10 → I1 c j = I c j)
      | 81 => ∃ (n : Nat) (e : Nat) (f : Int), nM = (1, (70 - n), 0) ∧ lsM = [some (zvr (k)), none, some (zvi (e)), some (zvi (f)), some (zvi (n))] ∧ stM = [] ∧ L1 = L ∧ R1 = R ∧ S1 = S ∧ (n ≤ cuHc w) ∧ ((e = (cuFw w (cuHc w) n).1 ∧ f = (cuFw w (cuHc w) n).2) ∧ e < 2 ^ cuHc w ∧ (f = -1 ∨ (0 ≤ f ∧ f < cuHc w))) ∧ (zUt k w 0 I1) ∧ (∀ p : Nat, p < n → I1 (k + 9) p = (cuFw w (cuHc w) (p + 1)).2) ∧ (∀ c j : Nat, ¬ c = k + 9 → ¬ c = k + 10 → I1 c j = I c j)
      | _ => False, rfl, ?_, ⟨?_, ?_, ?_, True.intro⟩⟩
  · refine And.intro (zDX hD 0 rfl) (zrd (v := (cuHc w)) hHc ?_)
    refine ⟨(3, ((2 ^ cuHc w - 1) : Nat), 100), [some (zvr (k)), none, some (zvi (((2 ^ cuHc w - 1) : Nat))), none, none], ⟨rfl, (congrArg (fun z => some (zvi z)) (by rw [hsh]; congr 2; omega)), rfl⟩, (2 ^ cuHc w - 1), rfl, rfl, rfl, rfl, rfl, rfl, (by omega), (fun d l h1 h2 h3 => by omega), (fun c j h0 => rfl)⟩
  · rintro nM lsM stM I1 L1 R1 S1 hz1 ⟨d, rfl, rfl, rfl, rfl, rfl, rfl, hd, hUt, fr⟩
    refine And.intro (by omega) ⟨fun h12 => ?_, fun h12 => ?_⟩
    · refine ⟨(1, (70 - (0 : Nat)), 0), zlt6 (by omega), [some (zvr (k)), none, some (zvi ((0 : Nat))), some (zvi (((-1) : Int))), some (zvi ((0 : Nat)))], ⟨rfl, (congrArg (fun z => some (zvi z)) (by have e : d = 0 := (by omega); subst e; rfl)), (congrArg (fun z => some (zvi z)) (by omega)), rfl, rfl⟩, 0, 0, (-1), rfl, rfl, rfl, rfl, rfl, rfl, (by omega), ⟨⟨rfl, rfl⟩, by omega, Or.inl rfl⟩, (by have e : d = 0 := (by omega); subst e; exact hUt), (fun p h => absurd h (Nat.not_lt_zero p)), (fun c j h0 h1 => ((fr c j h1).trans rfl))⟩
    · refine ⟨(3, d, (10 - (0 : Nat))), zlt6 (by omega), [some (zvr (k)), none, some (zvi (d)), some (zvi ((0 : Nat))), none], ⟨rfl, rfl, rfl, rfl⟩, d, 0, rfl, rfl, rfl, rfl, rfl, rfl, (by clear hQ; grind [xu]), (by omega), hUt, (fun l h => absurd h (Nat.not_lt_zero l)), (fun c j h0 => ((fr c j h0).trans rfl))⟩
  · rintro nM lsM stM I1 L1 R1 S1 hz1 ⟨d, q, rfl, rfl, rfl, rfl, rfl, rfl, hd, hq, hUt, hq2, fr⟩
    refine And.intro (zDX hD 0 rfl) (zrd (v := (cuHc w)) ((fr k 13 (by omega)).trans hHc) ?_)
    refine And.intro ⟨(by omega), (by omega)⟩ ⟨fun h22 => ?_, fun h22 => ?_⟩
    · refine ⟨(3, ((d - 1) : Nat), 100), zlt6 (by omega), [some (zvr (k)), none, some (zvi (((d - 1) : Nat))), none, none], ⟨rfl, (congrArg (fun z => some (zvi z)) (by omega)), rfl⟩, (d - 1), rfl, rfl, rfl, rfl, rfl, rfl, (by clear hQ; grind [xu]), ?_, (fun c j h0 => ((fr c j h0).trans rfl))⟩
      · intro d2 l h1 h2 h3
        by_cases e : d2 = d
        · subst e
          exact hq2 l (by omega)
        · exact hUt d2 l (by omega) h2 h3
    · refine And.intro (zDX hD 0 rfl) ⟨_, sn_U_nol.up (by decide), ?_⟩
      refine ⟨_, w, d, (d : Int), d, (q : Int), rfl, hS, hR, hD, (by first | exact hk | (clear hQ; grind [xu])), (by omega), (by first | exact hG | (clear hQ; grind [xu])), (by first | exact (zUh_fr hUh (fun c j h => ((fr c j (by omega)).trans rfl))) | (clear hQ; grind [xu])), (by omega), (by first | exact (zUt_fr hUt (fun c j h => rfl)) | (clear hQ; grind [xu])), (by clear hQ; grind [xu]), (Or.inr (by omega)), ?_⟩
      intro v28o p28hv p28bhv2
      refine And.intro (zDX hD 0 rfl) (zrdR (v := some (k + 10)) (zDR hD 7 rfl) ?_)
      refine And.intro ⟨(by omega), (zRb rfl)⟩ ⟨fun h46 => ?_, fun h46 => ?_⟩
      · refine And.intro (zDX hD 0 rfl) ⟨_, sn_U_tby.up (by decide), ?_⟩
        refine ⟨_, w, d, (d : Int), d, (q : Int), (v28o : Int), v28o.toNat, rfl, hS, hR, hD, (by first | exact hk | (clear hQ; grind [xu])), (by omega), (by first | exact hG | (clear hQ; grind [xu])), (by first | exact (zUh_fr hUh (fun c j h => ((fr c j (by omega)).trans rfl))) | (clear hQ; grind [xu])), (by omega), (by first | exact (zUt_fr hUt (fun c j h => rfl)) | (clear hQ; grind [xu])), (by clear hQ; grind [xu]), (Or.inr (by omega)), (by have z := cuMg_b (U := cuBt d) (g := cuTb w (cuHc w) d q) (cuHc w); have z2 : cuTn w (cuHc w) d q = cuMg (cuBt d) (cuTb w (cuHc w) d q) (cuHc w) := rfl; rw [← z2, ← p28hv] at z; rcases z with z | z; (exfalso; omega); exact ⟨by omega, by omega, z.2.2⟩), ?_⟩
        intro v58o p58hv p58bhv2
        refine And.intro ⟨(by show 40 ≤ _; omega), (zDP hD 10 rfl rfl (by omega) (by omega))⟩ ⟨_, (zWi (by omega)), ?_⟩
        refine ⟨(3, d, (10 - (q + 1))), zlt6 (by omega), [some (zvr (k)), none, some (zvi (d)), some (zvi ((q + 1))), none], ⟨rfl, rfl, rfl, rfl⟩, d, (q + 1), rfl, rfl, rfl, rfl, rfl, rfl, (by first | exact hd | (clear hQ; grind [xu])), (by omega), (fun d2 l h1 h2 h3 => zxs (by omega) (hUt d2 l h1 h2 h3)), ?_, (fun c j h0 => (zxu h0 ((fr c j h0).trans rfl)))⟩
        · intro l hl2
          by_cases e : l = q
          · subst e
            rw [cuTt_e (by omega) hd.2, show 8 * d + l = ((d : Int) * 8 + l).toNat by omega]
            refine zxe.trans ?_
            first
            | (rw [if_pos (by omega)])
            | (rw [if_neg (by omega), ← p28hv]; exact p58hv)
          · exact zxs (by omega) (hq2 l (by omega))
      · refine And.intro ⟨(by show 40 ≤ _; omega), (zDP hD 10 rfl rfl (by omega) (by omega))⟩ ⟨_, (zWi (zRb rfl)), ?_⟩
        refine ⟨(3, d, (10 - (q + 1))), zlt6 (by omega), [some (zvr (k)), none, some (zvi (d)), some (zvi ((q + 1))), none], ⟨rfl, rfl, rfl, rfl⟩, d, (q + 1), rfl, rfl, rfl, rfl, rfl, rfl, (by first | exact hd | (clear hQ; grind [xu])), (by omega), (fun d2 l h1 h2 h3 => zxs (by omega) (hUt d2 l h1 h2 h3)), ?_, (fun c j h0 => (zxu h0 ((fr c j h0).trans rfl)))⟩
        · intro l hl2
          by_cases e : l = q
          · subst e
            rw [cuTt_e (by omega) hd.2, show 8 * d + l = ((d : Int) * 8 + l).toNat by omega]
            refine zxe.trans ?_
            first
            | (rw [if_pos (by omega)])
            | (rw [if_neg (by omega), ← p28hv]; exact p58hv)
          · exact zxs (by omega) (hq2 l (by omega))
  · rintro nM lsM stM I1 L1 R1 S1 hz1 ⟨n, e, f, rfl, rfl, rfl, rfl, rfl, rfl, hn, he, hUt, ho, fr⟩
    have hfb := cuFw_b (w := w) (show cuHc w < 9 by omega) hn
    refine And.intro (zDX hD 0 rfl) (zrd (v := (cuHc w)) ((fr k 13 (by omega) (by omega)).trans hHc) ?_)
    refine And.intro ⟨(by omega), (by omega)⟩ ⟨fun h87 => ?_, fun h87 => ?_⟩
    · refine hQ _ ?_ (fun c j h0 h1 => ((fr c j h0 h1).trans rfl))
      · have e2 : n = cuHc w := (by omega)
        intro p hp
        unfold cuOr
        rw [if_pos h8]
        exact ho p (by omega)
    · refine And.intro (zDX hD 0 rfl) ⟨_, sn_U_nol.up (by decide), ?_⟩
      refine ⟨_, w, 0, (e : Int), e, (f : Int), rfl, hS, hR, hD, (by first | exact hk | (clear hQ; grind [xu])), (by omega), (by first | exact hG | (clear hQ; grind [xu])), (by first | exact (zUh_fr hUh (fun c j h => ((fr c j (by omega) (by omega)).trans rfl))) | (clear hQ; grind [xu])), (by omega), (by first | exact (zUt_fr hUt (fun c j h => rfl)) | (clear hQ; grind [xu])), (by clear hQ; grind [xu]), he.2.2, ?_⟩
      intro v93o p93hv p93bhv2
      have g93 : ((0 ≤ v93o ∧ v93o < cuHc w) ∧ e + 2 ^ v93o.toNat < 2 ^ cuHc w ∧ 0 < 2 ^ v93o.toNat) ∧ zor (e : Int) (zshl 1 v93o) = ((e + 2 ^ v93o.toNat : Nat) : Int) := by
        have z := cuMg_b (U := cuBt e) (g := cuTb w (cuHc w) e f) (cuHc w)
        have z2 : cuTn w (cuHc w) e f = cuMg (cuBt e) (cuTb w (cuHc w) e f) (cuHc w) := rfl
        rw [← z2, ← p93hv] at z
        have hnn := cuFw_b (w := w) (show cuHc w < 9 by omega) (show n + 1 ≤ cuHc w by omega)
        have hz : (cuFw w (cuHc w) (n + 1)).2 = cuTn w (cuHc w) (cuFw w (cuHc w) n).1 (cuFw w (cuHc w) n).2 := rfl
        rw [← he.1.1, ← he.1.2, ← p93hv] at hz
        have hzb := hnn.2.2 (by omega)
        rw [hz] at hzb
        rcases z with z | z
        · exfalso; omega
        · have y1 := (cuBt_N (cuHc w) (by omega) e he.2.1 v93o.toNat (by omega)).resolve_left z.2.2
          have y2 := (cuBt_q e (by omega) v93o.toNat (by omega)).resolve_left z.2.2
          have y3 := y2.2
          rw [Int.toNat_of_nonneg (by omega)] at y3
          exact ⟨⟨hzb, y1, Nat.two_pow_pos _⟩, y3⟩
      refine And.intro (zDX hD 0 rfl) (zrdR (v := some (k + 9)) (zDR hD 6 rfl) ?_)
      refine And.intro ⟨(by show 40 ≤ _; omega), (zDP hD 9 rfl rfl (by omega) (by omega))⟩ ⟨_, (zWi (by omega)), ?_⟩
      refine ⟨(1, (70 - (n + 1)), 0), zlt6 (by omega), [some (zvr (k)), none, some (zvi ((e + 2 ^ v93o.toNat))), some (zvi (v93o)), some (zvi ((n + 1)))], ⟨rfl, (congrArg (fun z => some (zvi z)) (by rw [g93.2, Int.natCast_add, Int.natCast_pow]; rfl)), rfl, rfl, rfl⟩, (n + 1), (e + 2 ^ v93o.toNat), v93o, rfl, rfl, rfl, rfl, rfl, rfl, (by omega), ⟨⟨by show _ = (cuFw w (cuHc w) n).1 + 2 ^ (cuTn w (cuHc w) (cuFw w (cuHc w) n).1 (cuFw w (cuHc w) n).2).toNat; rw [p93hv, ← he.1.1, ← he.1.2], by show _ = cuTn w (cuHc w) (cuFw w (cuHc w) n).1 (cuFw w (cuHc w) n).2; rw [p93hv, ← he.1.1, ← he.1.2]⟩, g93.1.2.1, Or.inr ⟨g93.1.1.1, g93.1.1.2⟩⟩, (fun d2 l h1 h2 h3 => zxu (by omega) (hUt d2 l h1 h2 h3)), ?_, (fun c j h0 h1 => (zxu h0 ((fr c j h0 h1).trans rfl)))⟩
      · intro p hp
        by_cases q : p = n
        · subst q
          refine zxe.trans ?_
          show _ = cuTn w (cuHc w) (cuFw w (cuHc w) p).1 (cuFw w (cuHc w) p).2
          rw [← he.1.1, ← he.1.2]
          exact p93hv
        · exact zxs (by omega) (ho p (by omega)))
def T_U_omh : ZT := fun args I L R S Q => ∃ (k : Nat) (w : List CuR), args = [zvr k] ∧ (zSh S) ∧ (zRs R) ∧ (zDy zT1 zF1 k R S) ∧ (k = 106 ∨ k = 118) ∧ (w.length ≤ 60) ∧ (cuG w) ∧ (zUh k w I) ∧ (8 < cuHc w) ∧ ∀ (I' : ZI), (zUo k w I') → (∀ c j : Nat, ¬ c = k + 9 → I' c j = I c j) → Q none I' L R S
theorem sn_U_omh : ZSnd 3 1 44 T_U_omh := ZSnd.loops (zT1_44 2) (by
  rintro args I L R S Q hz ⟨k, w, rfl, hS, hR, hD, hk, hl, hG, hUh, h8, hQ⟩
  have hk106 : 106 ≤ k := by omega
  have hk118 : k ≤ 118 := by omega
  have hc60 := cuHc_l hl
  obtain ⟨hHc, hHv⟩ := id hUh
  refine ⟨[7, 22], fun nM tM lsM stM I1 L1 R1 S1 => match tM with
      | 7 => ∃ (n : Nat) (b : Int) (f : Int), nM = ((61 - n), 100, 0) ∧ lsM = [some (zvr (k)), some (zvl (b)), none, some (zvi (f)), some (zvi (n)), none, none, none] ∧ stM = [] ∧ L1 = L ∧ R1 = R ∧ S1 = S ∧ (n ≤ cuHc w) ∧ (r64 b ∧ f = (cuMn w (cuHc w) n).1) ∧ (∀ j : Nat, j < 60 → (zlbt b j ↔ (cuMn w (cuHc w) n).2 j)) ∧ (∀ p : Nat, p < n → I1 (k + 9) p = (cuMn w (cuHc w) (p + 1)).1) ∧ (∀ c j : Nat, ¬ c = k + 9 → I1 c j = I c j)
      | 22 => ∃ (n : Nat) (b : Int) (f : Int) (r : Int) (h : Nat), nM = ((61 - n), 0, (61 - h)) ∧ lsM = [some (zvr (k)), some (zvl (b)), none, some (zvi (f)), some (zvi (n)), some (zvi (r)), some (zvi (h)), none] ∧ stM = [] ∧ L1 = L ∧ R1 = R ∧ S1 = S ∧ (n < cuHc w) ∧ (h ≤ cuHc w) ∧ (r64 b ∧ f = (cuMn w (cuHc w) n).1 ∧ (f = -1 ∨ (0 ≤ f ∧ f < cuHc w))) ∧ (∀ j : Nat, j < 60 → (zlbt b j ↔ (cuMn w (cuHc w) n).2 j)) ∧ (r = cuMg (cuMn w (cuHc w) n).2 (cuWy w f) h) ∧ (-1 ≤ r ∧ r < h) ∧ (∀ p : Nat, p < n → I1 (k + 9) p = (cuMn w (cuHc w) (p + 1)).1) ∧ (∀ c j : Nat, ¬ c = k + 9 → I1 c j = I c j)
      | _ => False, rfl, ?_, ⟨?_, ?_, True.intro⟩⟩
  · refine ⟨((61 - (0 : Nat)), 100, 0), [some (zvr (k)), some (zvl ((0 : Int))), none, some (zvi (((-1) : Int))), some (zvi ((0 : Nat))), none, none, none], ⟨rfl, rfl, (congrArg (fun z => some (zvi z)) (by omega)), rfl, rfl⟩, 0, 0, (-1), rfl, rfl, rfl, rfl, rfl, rfl, (by omega), ⟨by omega, rfl⟩, (fun j hj => ⟨fun q => absurd q (zlbt_0 (by omega)), fun q => False.elim q⟩), (fun p h => absurd h (Nat.not_lt_zero p)), (fun c j h0 => rfl)⟩
  · rintro nM lsM stM I1 L1 R1 S1 hz1 ⟨n, b, f, rfl, rfl, rfl, rfl, rfl, rfl, hn, hb, hbt, ho, fr⟩
    have hnb := cuMn_b (w := w) hn
    refine And.intro (zDX hD 0 rfl) (zrd (v := (cuHc w)) ((fr k 13 (by omega)).trans hHc) ?_)
    refine And.intro ⟨(by omega), (by omega)⟩ ⟨fun h13 => ?_, fun h13 => ?_⟩
    · refine hQ _ ?_ (fun c j h0 => ((fr c j h0).trans rfl))
      · have e2 : n = cuHc w := (by omega)
        intro p hp
        unfold cuOr
        rw [if_neg (by omega)]
        exact ho p (by omega)
    · refine ⟨((61 - n), 0, (61 - (0 : Nat))), zlt6 (by omega), [some (zvr (k)), some (zvl (b)), none, some (zvi (f)), some (zvi (n)), some (zvi (((-1) : Int))), some (zvi ((0 : Nat))), none], ⟨rfl, rfl, rfl, rfl, (congrArg (fun z => some (zvi z)) (by omega)), rfl, rfl⟩, n, b, f, (-1), 0, rfl, rfl, rfl, rfl, rfl, rfl, (by omega), (by omega), ⟨hb.1, hb.2, by by_cases q : n = 0; (left; rw [hb.2, q]; rfl); (right; rw [hb.2]; exact hnb.2 q)⟩, (by first | exact hbt | (clear hQ; grind [xu])), rfl, (by omega), (by first | exact ho | exact (fun p h1 => rfl.trans (ho p h1)) | (clear hQ; grind [xu])), (fun c j h0 => ((fr c j h0).trans rfl))⟩
  · rintro nM lsM stM I1 L1 R1 S1 hz1 ⟨n, b, f, r, h, rfl, rfl, rfl, rfl, rfl, rfl, hn, hh, hb, hbt, hr, hr1, ho, fr⟩
    have hnb := cuMn_b (w := w) (show n ≤ cuHc w by omega)
    have hrb := cuMg_b (U := (cuMn w (cuHc w) n).2) (g := cuWy w f) h
    refine And.intro (zDX hD 0 rfl) (zrd (v := (cuHc w)) ((fr k 13 (by omega)).trans hHc) ?_)
    refine And.intro ⟨(by omega), (by omega)⟩ ⟨fun h28 => ?_, fun h28 => ?_⟩
    · refine And.intro (zDX hD 0 rfl) (zrdR (v := some (k + 9)) (zDR hD 6 rfl) ?_)
      refine And.intro ⟨(by show 40 ≤ _; omega), (zDP hD 9 rfl rfl (by omega) (by omega))⟩ ⟨_, (zWi (by omega)), ?_⟩
      refine ⟨((61 - (n + 1)), 100, 0), zlt6 (by omega), [some (zvr (k)), some (zvl ((zlor b (zlshl 1 r)))), none, some (zvi (r)), some (zvi ((n + 1))), none, none, none], ⟨rfl, rfl, rfl, rfl, rfl⟩, (n + 1), (zlor b (zlshl 1 r)), r, rfl, rfl, rfl, rfl, rfl, rfl, (by omega), (by have e : h = cuHc w := (by omega); subst e; rw [hb.2.1] at hr; exact ⟨zr_lor, hr⟩), ?_, ?_, (fun c j h0 => (zxu h0 ((fr c j h0).trans rfl)))⟩
      · have e : h = cuHc w := (by omega)
        subst e
        rw [hb.2.1] at hr
        have e1 : (cuMn w (cuHc w) (n + 1)).1 = r := hr.symm
        have hb1 := (cuMn_b (w := w) (show n + 1 ≤ cuHc w by omega)).2 (by omega)
        rw [e1] at hb1
        intro j hj
        show _ ↔ ((cuMn w (cuHc w) n).2 j ∨ (j : Int) = cuMg (cuMn w (cuHc w) n).2 (cuWy w (cuMn w (cuHc w) n).1) (cuHc w))
        rw [← hr, ← hbt j hj]
        have z := zlbt_o (b := b) (j := j) (r := r.toNat) (by omega) (by omega)
        rw [Int.toNat_of_nonneg hb1.1] at z
        refine z.trans (or_congr Iff.rfl ?_)
        omega
      · have e : h = cuHc w := (by omega)
        subst e
        rw [hb.2.1] at hr
        intro p hp
        by_cases q : p = n
        · subst q
          exact zxe.trans hr
        · exact zxs (by omega) (ho p (by omega))
    · have t28 : h + 1 ≤ cuHc w := (by omega)
      refine ⟨_, _, ⟨zW6i zr_land, zW6i (zRL rfl)⟩, fun z38 c38 => ?_⟩
      refine And.intro c38.2.2 ⟨fun h39 => ?_, fun h39 => ?_⟩
      · have t39 : (cuMn w (cuHc w) n).2 h := ((hbt h (by omega)).mp (by unfold zlbt; omega))
        refine And.intro (zRb rfl) (zbt rfl ?_)
        refine ⟨((61 - n), 0, (61 - (h + 1))), zlt6 (by omega), [some (zvr (k)), some (zvl (b)), none, some (zvi (f)), some (zvi (n)), some (zvi (r)), some (zvi ((h + 1))), none], ⟨rfl, rfl, rfl, rfl, rfl, rfl, rfl⟩, n, b, f, r, (h + 1), rfl, rfl, rfl, rfl, rfl, rfl, (by omega), (by omega), (by first | exact hb | (clear hQ; grind [xu])), (by first | exact hbt | (clear hQ; grind [xu])), ?_, (by omega), (by first | exact ho | exact (fun p h1 => rfl.trans (ho p h1)) | (clear hQ; grind [xu])), (fun c j h0 => ((fr c j h0).trans rfl))⟩
        · first
          | exact hr.trans (cuMg_n (fun q => q.1 t39)).symm
          | exact Eq.symm (cuMg_y (U := (cuMn w (cuHc w) n).2) (g := cuWy w f) ⟨t39, Or.inl (by omega)⟩)
          | exact Eq.symm (cuMg_y (U := (cuMn w (cuHc w) n).2) (g := cuWy w f) ⟨t39, Or.inr (by rw [← p64hv, ← hr, ← p71hv]; omega)⟩)
          | (rw [cuMg_n]
             · exact hr
             · rintro ⟨_, q | q⟩
               · omega
               · rw [← p64hv, ← hr, ← p71hv] at q; omega)
      · have t39 : ¬ (cuMn w (cuHc w) n).2 h := (fun q => by have z := (hbt h (by omega)).mpr q; unfold zlbt at z; omega)
        refine And.intro (zRb rfl) (zbf rfl ?_)
        refine And.intro ⟨(by omega), (zRb rfl)⟩ ⟨fun h57 => ?_, fun h57 => ?_⟩
        · refine ⟨((61 - n), 0, (61 - (h + 1))), zlt6 (by omega), [some (zvr (k)), some (zvl (b)), none, some (zvi (f)), some (zvi (n)), some (zvi (h)), some (zvi ((h + 1))), none], ⟨rfl, rfl, rfl, rfl, rfl, rfl, rfl⟩, n, b, f, h, (h + 1), rfl, rfl, rfl, rfl, rfl, rfl, (by omega), (by omega), (by first | exact hb | (clear hQ; grind [xu])), (by first | exact hbt | (clear hQ; grind [xu])), ?_, (by omega), (by first | exact ho | exact (fun p h1 => rfl.trans (ho p h1)) | (clear hQ; grind [xu])), (fun c j h0 => ((fr c j h0).trans rfl))⟩
          · first
            | exact hr.trans (cuMg_n (fun q => q.1 t39)).symm
            | exact Eq.symm (cuMg_y (U := (cuMn w (cuHc w) n).2) (g := cuWy w f) ⟨t39, Or.inl (by omega)⟩)
            | exact Eq.symm (cuMg_y (U := (cuMn w (cuHc w) n).2) (g := cuWy w f) ⟨t39, Or.inr (by rw [← p64hv, ← hr, ← p71hv]; omega)⟩)
            | (rw [cuMg_n]
               · exact hr
               · rintro ⟨_, q | q⟩
                 · omega
                 · rw [← p64hv, ← hr, ← p71hv] at q; omega)
        · refine And.intro (zDX hD 0 rfl) ⟨_, sn_U_way.up (by decide), ?_⟩
          refine ⟨_, w, (f : Int), (h : Int), h, rfl, hS, hR, hD, (by first | exact hk | (clear hQ; grind [xu])), (by omega), (by first | exact hG | (clear hQ; grind [xu])), (by first | exact (zUh_fr hUh (fun c j h => ((fr c j (by omega)).trans rfl))) | (clear hQ; grind [xu])), hb.2.2, (by omega), ?_⟩
          intro v64o p64hv p64bhv2
          refine And.intro (zDX hD 0 rfl) ⟨_, sn_U_way.up (by decide), ?_⟩
          refine ⟨_, w, (f : Int), (r : Int), r.toNat, rfl, hS, hR, hD, (by first | exact hk | (clear hQ; grind [xu])), (by omega), (by first | exact hG | (clear hQ; grind [xu])), (by first | exact (zUh_fr hUh (fun c j h => ((fr c j (by omega)).trans rfl))) | (clear hQ; grind [xu])), hb.2.2, (by omega), ?_⟩
          intro v71o p71hv p71bhv2
          refine And.intro ⟨(by omega), (by omega)⟩ ⟨fun h74 => ?_, fun h74 => ?_⟩
          · refine ⟨((61 - n), 0, (61 - (h + 1))), zlt6 (by omega), [some (zvr (k)), some (zvl (b)), none, some (zvi (f)), some (zvi (n)), some (zvi (r)), some (zvi ((h + 1))), none], ⟨rfl, rfl, rfl, rfl, rfl, rfl, rfl⟩, n, b, f, r, (h + 1), rfl, rfl, rfl, rfl, rfl, rfl, (by omega), (by omega), (by first | exact hb | (clear hQ; grind [xu])), (by first | exact hbt | (clear hQ; grind [xu])), ?_, (by omega), (by first | exact ho | exact (fun p h1 => rfl.trans (ho p h1)) | (clear hQ; grind [xu])), (fun c j h0 => ((fr c j h0).trans rfl))⟩
            · first
              | exact hr.trans (cuMg_n (fun q => q.1 t39)).symm
              | exact Eq.symm (cuMg_y (U := (cuMn w (cuHc w) n).2) (g := cuWy w f) ⟨t39, Or.inl (by omega)⟩)
              | exact Eq.symm (cuMg_y (U := (cuMn w (cuHc w) n).2) (g := cuWy w f) ⟨t39, Or.inr (by rw [← p64hv, ← hr, ← p71hv]; omega)⟩)
              | (rw [cuMg_n]
                 · exact hr
                 · rintro ⟨_, q | q⟩
                   · omega
                   · rw [← p64hv, ← hr, ← p71hv] at q; omega)
          · refine ⟨((61 - n), 0, (61 - (h + 1))), zlt6 (by omega), [some (zvr (k)), some (zvl (b)), none, some (zvi (f)), some (zvi (n)), some (zvi (h)), some (zvi ((h + 1))), none], ⟨rfl, rfl, rfl, rfl, rfl, rfl, rfl⟩, n, b, f, h, (h + 1), rfl, rfl, rfl, rfl, rfl, rfl, (by omega), (by omega), (by first | exact hb | (clear hQ; grind [xu])), (by first | exact hbt | (clear hQ; grind [xu])), ?_, (by omega), (by first | exact ho | exact (fun p h1 => rfl.trans (ho p h1)) | (clear hQ; grind [xu])), (fun c j h0 => ((fr c j h0).trans rfl))⟩
            · first
              | exact hr.trans (cuMg_n (fun q => q.1 t39)).symm
              | exact Eq.symm (cuMg_y (U := (cuMn w (cuHc w) n).2) (g := cuWy w f) ⟨t39, Or.inl (by omega)⟩)
              | exact Eq.symm (cuMg_y (U := (cuMn w (cuHc w) n).2) (g := cuWy w f) ⟨t39, Or.inr (by rw [← p64hv, ← hr, ← p71hv]; omega)⟩)
              | (rw [cuMg_n]
                 · exact hr
                 · rintro ⟨_, q | q⟩
                   · omega
                   · rw [← p64hv, ← hr, ← p71hv] at q; omega))
def T_U_orh : ZT := fun args I L R S Q => ∃ (k : Nat) (w : List CuR), args = [zvr k] ∧ (zSh S) ∧ (zRs R) ∧ (zDy zT1 zF1 k R S) ∧ (k = 106 ∨ k = 118) ∧ (zUw k w I) ∧ (w.length ≤ 60) ∧ (cuG w) ∧ ∀ (I' : ZI), (zUh k w I') → (zUo k w I') → (∀ c j : Nat, ¬ (c = k ∧ j = 13) → ¬ c = k + 8 → ¬ c = k + 9 → ¬ c = k + 10 → I' c j = I c j) → Q none I' L R S
theorem sn_U_orh : ZSnd 6 1 43 T_U_orh := ZSnd.loops (zT1_43 5) (by
  rintro args I L R S Q hz ⟨k, w, rfl, hS, hR, hD, hk, hW, hl, hG, hQ⟩
  have hk106 : 106 ≤ k := by omega
  have hk118 : k ≤ 118 := by omega
  have hT1 := zUw_T hW hl
  have hN := hT1.2.1
  have hc60 := cuHc_l hl
  refine ⟨[7], fun nM tM lsM stM I1 L1 R1 S1 => match tM with
      | 7 => ∃ (m : Nat), nM = ((61 - m), 0, 0) ∧ lsM = [some (zvr (k)), some (zvi (m))] ∧ stM = [] ∧ L1 = L ∧ R1 = R ∧ S1 = S ∧ (m ≤ w.length) ∧ (I1 k 13 = zct (cuHn w) m) ∧ (∀ s : Nat, s < m → cuHn w s → I1 (k + 8) (zct (cuHn w) s) = cg w s 2 * 16 * 16 + cg w s 3) ∧ (∀ c j : Nat, ¬ (c = k ∧ j = 13) → ¬ c = k + 8 → I1 c j = I c j)
      | _ => False, rfl, ?_, ⟨?_, True.intro⟩⟩
  · refine And.intro (zDX hD 0 rfl) ⟨_, (zWi (zRb rfl)), ?_⟩
    refine ⟨((61 - (0 : Nat)), 0, 0), [some (zvr (k)), some (zvi ((0 : Nat)))], ⟨rfl, rfl, rfl⟩, 0, rfl, rfl, rfl, rfl, rfl, rfl, (by omega), zxe, (fun s h => absurd h (Nat.not_lt_zero s)), (fun c j h0 h1 => (zxcj h0 rfl))⟩
  · rintro nM lsM stM I1 L1 R1 S1 hz1 ⟨m, rfl, rfl, rfl, rfl, rfl, rfl, hm, h13, hp1, fr⟩
    have hz1 := zct_le (cuHn w) m
    refine And.intro (zDX hD 0 rfl) (zrdR (v := some (k + 1)) (zDR hD 0 rfl) ?_)
    refine And.intro (zDX hD 1 rfl) (zrd (v := (w.length)) ((fr (k + 1) 2 (by omega) (by omega)).trans hN) ?_)
    refine And.intro ⟨(by omega), (by omega)⟩ ⟨fun h15 => ?_, fun h15 => ?_⟩
    · have t15 : zUh k w I1 := by
        have e : m = w.length := (by omega)
        subst e
        refine ⟨h13, fun p hp => ?_⟩
        have z := cuHx_b hp
        have z2 := hp1 (cuHx w p) z.1 z.2.1
        rw [z.2.2] at z2
        exact z2
      have t15b : I1 k 13 = cuHc w := t15.1
      refine And.intro (zDX hD 0 rfl) (zrd (v := (zct (cuHn w) m)) h13 ?_)
      refine And.intro ⟨(by omega), (zRb rfl)⟩ ⟨fun h79 => ?_, fun h79 => ?_⟩
      · refine And.intro (zDX hD 0 rfl) ⟨_, sn_U_omh.up (by decide), ?_⟩
        refine ⟨_, w, rfl, hS, hR, hD, (by first | exact hk | (clear hQ; grind [xu])), (by omega), (by first | exact hG | (clear hQ; grind [xu])), t15, (by omega), ?_⟩
        intro I90o p90hUo p90bfr
        refine hQ _ (by first | exact zUh_fr t15 (fun c j h => p83bfr c j (by omega) (by omega)) | exact zUh_fr t15 (fun c j h => p90bfr c j (by omega))) (by first | exact p83hUo | exact p90hUo) (fun c j h0 h1 h2 h3 => ((p90bfr c j h2).trans ((fr c j h0 h1).trans rfl)))
      · refine And.intro (zDX hD 0 rfl) ⟨_, sn_U_ofh.up (by decide), ?_⟩
        refine ⟨_, w, rfl, hS, hR, hD, (by first | exact hk | (clear hQ; grind [xu])), (by omega), (by first | exact hG | (clear hQ; grind [xu])), t15, (by omega), ?_⟩
        intro I83o p83hUo p83bfr
        refine hQ _ (by first | exact zUh_fr t15 (fun c j h => p83bfr c j (by omega) (by omega)) | exact zUh_fr t15 (fun c j h => p90bfr c j (by omega))) (by first | exact p83hUo | exact p90hUo) (fun c j h0 h1 h2 h3 => ((p83bfr c j h2 h3).trans ((fr c j h0 h1).trans rfl)))
    · have t15 : m + 1 ≤ w.length := (by omega)
      refine And.intro (zDX hD 0 rfl) ⟨_, sn_U_cls.up (by decide), ?_⟩
      refine ⟨_, w, (m : Int), m, rfl, hS, hR, hD, (by first | exact hk | (clear hQ; grind [xu])), (by first | exact (zUw_fr hW (fun c j h => ((fr c j (by omega) (by omega)).trans rfl))) | (clear hQ; grind [xu])), (by omega), (by first | exact hG | (clear hQ; grind [xu])), (by omega), ?_⟩
      intro v20o p20hv p20bhv2
      refine And.intro ⟨(by omega), (zRb rfl)⟩ ⟨fun h24 => ?_, fun h24 => ?_⟩
      · have t24 : ¬ cuHn w m := (by unfold cuHn; omega)
        refine ⟨((61 - (m + 1)), 0, 0), zlt6 (by omega), [some (zvr (k)), some (zvi ((m + 1)))], ⟨rfl, rfl, rfl⟩, (m + 1), rfl, rfl, rfl, rfl, rfl, rfl, (by omega), (by first | exact zxe.trans (by rw [zct_t t24]; omega) | (rw [zct_f t24]; exact h13)), ?_, (fun c j h0 h1 => ((fr c j h0 h1).trans rfl))⟩
        · intro s hs hr
          by_cases e : s = m
          · subst e
            first
            | (refine zxu (by omega) (zxe.trans ?_); rw [p37hv, p52hv])
            | exact absurd hr t24
          · have z := zct_lt2 (show s < m by omega) hr
            first
            | exact zxu (by omega) (zxs (by omega) (hp1 s (by omega) hr))
            | exact hp1 s (by omega) hr
      · have t24 : cuHn w m := (by unfold cuHn; omega)
        refine And.intro (zDX hD 0 rfl) (zrdR (v := some (k + 8)) (zDR hD 5 rfl) ?_)
        refine And.intro (zDX hD 0 rfl) (zrd (v := (zct (cuHn w) m)) h13 ?_)
        refine And.intro (zDX hD 0 rfl) ⟨_, sn_U_los.up (by decide), ?_⟩
        refine ⟨_, w, (m : Int), m, rfl, hS, hR, hD, (by first | exact hk | (clear hQ; grind [xu])), (by first | exact (zUw_fr hW (fun c j h => ((fr c j (by omega) (by omega)).trans rfl))) | (clear hQ; grind [xu])), (by omega), (by first | exact hG | (clear hQ; grind [xu])), (by omega), ?_⟩
        intro v37o p37hv p37bhv2
        refine And.intro (zDX hD 0 rfl) (zrdR (v := some (k + 1)) (zDR hD 0 rfl) ?_)
        refine And.intro (zDX hD 1 rfl) ⟨_, sn_A_at.up (by decide), ?_⟩
        refine ⟨(k + 1), 60, w.length, (cg w), m, 3, (m : Int), (3 : Int), rfl, hS, hR, (zRw_1_1 hD), (by first | exact (zRT_fr hT1 (fun c j h => ((fr c j (by omega) (by omega)).trans rfl))) | (clear hQ; grind [xu])), (by omega), (by omega), ?_⟩
        intro v52o p52hv p52bhr
        have g52 : 0 ≤ v52o ∧ v52o ≤ 255 := (by have z := hG m (by omega); omega)
        refine And.intro ⟨(by show 40 ≤ _; omega), (zDP hD 8 rfl rfl (by omega) (by omega))⟩ ⟨_, (zWi (by omega)), ?_⟩
        refine And.intro (zDX hD 0 rfl) (zrd (v := (zct (cuHn w) m)) (zxu (by omega) h13) ?_)
        refine And.intro (zDX hD 0 rfl) ⟨_, (zWi (by omega)), ?_⟩
        refine ⟨((61 - (m + 1)), 0, 0), zlt6 (by omega), [some (zvr (k)), some (zvi ((m + 1)))], ⟨rfl, rfl, rfl⟩, (m + 1), rfl, rfl, rfl, rfl, rfl, rfl, (by omega), (by first | exact zxe.trans (by rw [zct_t t24]; omega) | (rw [zct_f t24]; exact h13)), ?_, (fun c j h0 h1 => (zxcj h0 (zxu h1 ((fr c j h0 h1).trans rfl))))⟩
        · intro s hs hr
          by_cases e : s = m
          · subst e
            first
            | (refine zxu (by omega) (zxe.trans ?_); rw [p37hv, p52hv])
            | exact absurd hr t24
          · have z := zct_lt2 (show s < m by omega) hr
            first
            | exact zxu (by omega) (zxs (by omega) (hp1 s (by omega) hr))
            | exact hp1 s (by omega) hr)
