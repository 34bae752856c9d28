/-! zb -/
def T_O_isG : ZT := fun args I L R S Q => ∃ (k : Nat) (O : OoS) (j : Int), args = [zvr k, zvi j] ∧ (zSh S) ∧ (zRs R) ∧ (zDy zT2 zF2 k R S) ∧ (zOB k O I L) ∧ (oGd O) ∧ (r32 j) ∧ ∀ (v : Int), ((v = 1 ∧ (0 ≤ j ∧ j < ocn O)) ∨ (v = 0 ∧ ¬ (0 ≤ j ∧ j < ocn O))) → Q (some (zvi (v))) I L R S
theorem sn_O_isG : ZSnd 1 2 14 T_O_isG := ZSnd.of (zT2_14 0) (by
  rintro args I L R S Q hz ⟨k, O, j, rfl, hS, hR, hD, hO, hG, hr, hQ⟩
  obtain ⟨o1, o2, o3, o4⟩ := id hO
  obtain ⟨g1, g2, g3, g4, g5⟩ := id hG
  have hk40 := hD.1
  refine And.intro rfl ?_
  refine And.intro (by omega) ⟨fun h1 => ?_, fun h1 => ?_⟩
  · refine And.intro (Or.inl rfl) ?_
    refine hQ _ (by omega)
  · refine And.intro (zDX hD 0 rfl) (zrd (v := (ocn O)) o1 ?_)
    refine And.intro ⟨(by omega), (by omega)⟩ ⟨fun h9 => ?_, fun h9 => ?_⟩
    · refine And.intro (Or.inl rfl) ?_
      refine hQ _ (by omega)
    · refine And.intro (Or.inr rfl) ?_
      refine hQ _ (by omega))
def T_V_isG : ZT := fun args I L R S Q => ∃ (k : Nat) (O : OoS) (j : Int), args = [zvr k, zvi j] ∧ (zSh S) ∧ (zRs R) ∧ (zDy zT20 zF20 k R S) ∧ (zOM k O I L) ∧ (oGd O) ∧ (r32 j) ∧ ∀ (v : Int), ((v = 1 ∧ (0 ≤ j ∧ j < ocn O)) ∨ (v = 0 ∧ ¬ (0 ≤ j ∧ j < ocn O))) → Q (some (zvi (v))) I L R S
theorem sn_V_isG : ZSnd 1 20 17 T_V_isG := ZSnd.of (zT20_17 0) (by
  rintro args I L R S Q hz ⟨k, O, j, rfl, hS, hR, hD, hO, hG, hr, hQ⟩
  obtain ⟨o1, o2, o3, o4⟩ := id hO
  obtain ⟨g1, g2, g3, g4, g5⟩ := id hG
  have hk40 := hD.1
  refine And.intro rfl ?_
  refine And.intro (by omega) ⟨fun h1 => ?_, fun h1 => ?_⟩
  · refine And.intro (Or.inl rfl) ?_
    refine hQ _ (by omega)
  · refine And.intro (zDX hD 0 rfl) (zrd (v := (ocn O)) o1 ?_)
    refine And.intro ⟨(by omega), (by omega)⟩ ⟨fun h9 => ?_, fun h9 => ?_⟩
    · refine And.intro (Or.inl rfl) ?_
      refine hQ _ (by omega)
    · refine And.intro (Or.inr rfl) ?_
      refine hQ _ (by omega))
def T_O_kinG : ZT := fun args I L R S Q => ∃ (k : Nat) (O : OoS) (j : Int), args = [zvr k, zvi j] ∧ (zSh S) ∧ (zRs R) ∧ (zDy zT2 zF2 k R S) ∧ (zOB k O I L) ∧ (oGd O) ∧ (r32 j) ∧ ∀ (v : Int), (v = kdV O j) → Q (some (zvi (v))) I L R S
theorem sn_O_kinG : ZSnd 2 2 16 T_O_kinG := ZSnd.of (zT2_16 1) (by
  rintro args I L R S Q hz ⟨k, O, j, rfl, hS, hR, hD, hO, hG, hr, hQ⟩
  obtain ⟨o1, o2, o3, o4⟩ := id hO
  obtain ⟨g1, g2, g3, g4, g5⟩ := id hG
  have hk40 := hD.1
  refine And.intro rfl ?_
  refine And.intro (zDX hD 0 rfl) ⟨_, sn_O_isG.up (by decide), ?_⟩
  refine ⟨_, _, (j : Int), rfl, hS, hR, hD, (by first | exact (zOB_fr hO (fun c j h => rfl) (fun c j h => rfl)) | (clear hQ; grind [xu])), (by first | exact hG | (clear hQ; grind [xu])), (by omega), ?_⟩
  intro v2o p2hv
  refine And.intro (by omega) ⟨fun h5 => ?_, fun h5 => ?_⟩
  · refine hQ _ (by unfold kdV; first | (rw [if_pos ⟨by omega, by omega⟩]; omega) | (rw [if_neg (by omega)]))
  · refine And.intro (zDX hD 0 rfl) (zrdR (v := some (k + 1)) (zDR hD 0 rfl) ?_)
    refine And.intro (zDP hD 1 rfl rfl (by omega) (by omega)) (fun v13 e13 r13 => ?_)
    have f13 : v13 = okd O j.toNat := (e13.trans (o2 j.toNat (by omega)).1)
    refine hQ _ (by unfold kdV; first | (rw [if_pos ⟨by omega, by omega⟩]; omega) | (rw [if_neg (by omega)])))
def T_O_nmG : ZT := fun args I L R S Q => ∃ (k : Nat) (O : OoS) (j : Int) (w : Int), args = [zvr k, zvi j, zvi w] ∧ (zSh S) ∧ (zRs R) ∧ (zDy zT2 zF2 k R S) ∧ (zOB k O I L) ∧ (oGd O) ∧ (r32 j ∧ r32 w) ∧ ∀ (v : Int), (v = nmV O j w) → Q (some (zvl (v))) I L R S
theorem sn_O_nmG : ZSnd 2 2 18 T_O_nmG := ZSnd.of (zT2_18 1) (by
  rintro args I L R S Q hz ⟨k, O, j, w, rfl, hS, hR, hD, hO, hG, hr, hQ⟩
  obtain ⟨o1, o2, o3, o4⟩ := id hO
  obtain ⟨g1, g2, g3, g4, g5⟩ := id hG
  have hk40 := hD.1
  refine And.intro rfl ?_
  refine And.intro (by omega) ⟨fun h1 => ?_, fun h1 => ?_⟩
  · refine hQ _ (by unfold nmV; first | (rw [if_pos ⟨⟨by omega, by omega⟩, by omega, by omega⟩]; omega) | (rw [if_neg (by omega)]))
  · refine And.intro ⟨(by omega), (zRb rfl)⟩ ⟨fun h6 => ?_, fun h6 => ?_⟩
    · refine hQ _ (by unfold nmV; first | (rw [if_pos ⟨⟨by omega, by omega⟩, by omega, by omega⟩]; omega) | (rw [if_neg (by omega)]))
    · refine And.intro (zDX hD 0 rfl) ⟨_, sn_O_isG.up (by decide), ?_⟩
      refine ⟨_, _, (j : Int), rfl, hS, hR, hD, (by first | exact (zOB_fr hO (fun c j h => rfl) (fun c j h => rfl)) | (clear hQ; grind [xu])), (by first | exact hG | (clear hQ; grind [xu])), (by omega), ?_⟩
      intro v11o p11hv
      refine And.intro (by omega) ⟨fun h14 => ?_, fun h14 => ?_⟩
      · refine hQ _ (by unfold nmV; first | (rw [if_pos ⟨⟨by omega, by omega⟩, by omega, by omega⟩]; omega) | (rw [if_neg (by omega)]))
      · refine And.intro (zDX hD 0 rfl) (zrdR (v := some (k + 4)) (zDR hD 3 rfl) ?_)
        refine And.intro (zDP hD 4 rfl rfl (by omega) (by omega)) (fun v26 e26 r26 => ?_)
        have f26 : v26 = onm O j.toNat w.toNat := (e26.trans ((congrArg (L (k + 4)) (by omega)).trans (o3 j.toNat w.toNat (by omega) (by omega))))
        refine hQ _ (by unfold nmV; first | (rw [if_pos ⟨⟨by omega, by omega⟩, by omega, by omega⟩]; omega) | (rw [if_neg (by omega)])))
def T_Z_knd : ZT := fun args I L R S Q => ∃ (k : Nat) (O : OoS) (j : Int), args = [zvr 40, zvi j] ∧ (zSh S) ∧ (zRs R) ∧ (R 40 4 = some k) ∧ (zDy zT2 zF2 k R S) ∧ (43 ≤ k ∧ k ≤ 52) ∧ (zOB k O I L) ∧ (oGd O) ∧ (r32 j) ∧ ∀ (v : Int), (v = kdV O j) → Q (some (zvi (v))) I L R S
theorem sn_Z_knd : ZSnd 3 11 26 T_Z_knd := ZSnd.of (zT11_26 2) (by
  rintro args I L R S Q hz ⟨k, O, j, rfl, hS, hR, hob, hD, hk, hO, hG, hr, hQ⟩
  refine And.intro rfl ?_
  refine And.intro (zA_40 hS) (zrdR (v := some k) hob ?_)
  refine And.intro (zDX hD 0 rfl) ⟨_, sn_O_kinG.up (by decide), ?_⟩
  refine ⟨k, O, (j : Int), rfl, hS, hR, hD, (by first | exact (zOB_fr hO (fun c j h => rfl) (fun c j h => rfl)) | (clear hQ; grind [xu])), (by first | exact hG | (clear hQ; grind [xu])), (by omega), ?_⟩
  intro v5o p5hv
  refine hQ _ p5hv)
def T_Z_nbr : ZT := fun args I L R S Q => ∃ (k : Nat) (O : OoS) (j : Int) (w : Int), args = [zvr 40, zvi j, zvi w] ∧ (zSh S) ∧ (zRs R) ∧ (R 40 4 = some k) ∧ (zDy zT2 zF2 k R S) ∧ (43 ≤ k ∧ k ≤ 52) ∧ (zOB k O I L) ∧ (oGd O) ∧ (r32 j ∧ r32 w) ∧ ∀ (v : Int), (v = nmV O j w) → Q (some (zvl (v))) I L R S
theorem sn_Z_nbr : ZSnd 3 11 31 T_Z_nbr := ZSnd.of (zT11_31 2) (by
  rintro args I L R S Q hz ⟨k, O, j, w, rfl, hS, hR, hob, hD, hk, hO, hG, hr, hQ⟩
  refine And.intro rfl ?_
  refine And.intro (zA_40 hS) (zrdR (v := some k) hob ?_)
  refine And.intro (zDX hD 0 rfl) ⟨_, sn_O_nmG.up (by decide), ?_⟩
  refine ⟨k, O, (j : Int), (w : Int), rfl, hS, hR, hD, (by first | exact (zOB_fr hO (fun c j h => rfl) (fun c j h => rfl)) | (clear hQ; grind [xu])), (by first | exact hG | (clear hQ; grind [xu])), (by omega), ?_⟩
  intro v6o p6hv
  refine hQ _ p6hv)
def T_Z_wrt : ZT := fun args I L R S Q => ∃ (k : Nat) (w : List Int) (i : Int), args = [zvr 40, zvi i] ∧ (zSh S) ∧ (zRs R) ∧ (R 40 4 = some k) ∧ (zDy zT2 zF2 k R S) ∧ (43 ≤ k ∧ k ≤ 52) ∧ (zPG k w I) ∧ (w.length ≤ 26000) ∧ (r32 i) ∧ ∀ (v : Int), (v = pgV w i) → Q (some (zvi (v))) I L R S
theorem sn_Z_wrt : ZSnd 2 11 58 T_Z_wrt := ZSnd.of (zT11_58 1) (by
  rintro args I L R S Q hz ⟨k, w, i, rfl, hS, hR, hob, hD, hk, hPG, hwl, hr, hQ⟩
  refine And.intro rfl ?_
  refine And.intro (zA_40 hS) (zrdR (v := some k) hob ?_)
  refine And.intro (zDX hD 0 rfl) ⟨_, sn_O_pgl.up (by decide), ?_⟩
  refine ⟨k, w, (i : Int), rfl, hS, hR, hD, (by omega), (by first | exact (zPG_fr hPG (fun c j h => rfl)) | (clear hQ; grind [xu])), (by omega), (by omega), ?_⟩
  intro v5o p5hv
  refine hQ _ p5hv)
def T_Z_nts : ZT := fun args I L R S Q => ∃ (n : Int), args = [zvr 40] ∧ (zSh S) ∧ (zRs R) ∧ (I 63 14 = n) ∧ ∀ (v : Int), (v = n) → Q (some (zvi (v))) I L R S
theorem sn_Z_nts : ZSnd 1 11 30 T_Z_nts := ZSnd.of (zT11_30 0) (by
  rintro args I L R S Q hz ⟨n, rfl, hS, hR, hn, hQ⟩
  refine And.intro rfl ?_
  refine And.intro (zA_40 hS) (zrdR (v := some 63) (zR_40_8 hR) ?_)
  refine And.intro (zA_63 hS) (zrd (v := n) hn ?_)
  refine hQ _ (by omega))
def T_Z_nto : ZT := fun args I L R S Q => ∃ (d : JdS) (ob : Nat → Int) (x : Int) (y : Int), args = [zvr 40, zvi x, zvi y] ∧ (zSh S) ∧ (zRs R) ∧ (zDA d ob I) ∧ (jGd d) ∧ (zCw d I) ∧ (r32 x ∧ r32 y) ∧ ∀ (v : Int), (v = jOf d x y) → Q (some (zvi (v))) I L R S
theorem sn_Z_nto : ZSnd 4 11 29 T_Z_nto := ZSnd.of (zT11_29 3) (by
  rintro args I L R S Q hz ⟨d, ob, x, y, rfl, hS, hR, hDA, hJG, hCw, hr, hQ⟩
  refine And.intro rfl ?_
  refine And.intro (zA_40 hS) (zrdR (v := some 63) (zR_40_8 hR) ?_)
  refine And.intro (zA_63 hS) ⟨_, sn_C_netO2.up (by decide), ?_⟩
  refine ⟨d, ob, (x : Int), (y : Int), rfl, hS, hR, (by first | exact (zDA_fr hDA (fun c j h => rfl)) | (clear hQ; grind [xu])), (by first | exact hJG | (clear hQ; grind [xu])), (by first | exact hCw | (clear hQ; grind [xu])), (by omega), ?_⟩
  intro v6o p6hv
  refine hQ _ p6hv)
def T_Z_nmo : ZT := fun args I L R S Q => ∃ (d : JdS) (x : Int), args = [zvr 40, zvi x] ∧ (zSh S) ∧ (zRs R) ∧ (zCf d I) ∧ (r32 x) ∧ ∀ (v : Int), (v = jNmI d x) → Q (some (zvi (v))) I L R S
theorem sn_Z_nmo : ZSnd 2 11 28 T_Z_nmo := ZSnd.of (zT11_28 1) (by
  rintro args I L R S Q hz ⟨d, x, rfl, hS, hR, hCf, hr, hQ⟩
  refine And.intro rfl ?_
  refine And.intro (zA_40 hS) (zrdR (v := some 63) (zR_40_8 hR) ?_)
  refine And.intro (zA_63 hS) ⟨_, sn_C_nameOf.up (by decide), ?_⟩
  refine ⟨d, (x : Int), rfl, hS, hR, (by first | exact (zCf_fr hCf (fun c j h => rfl)) | (clear hQ; grind [xu])), (by omega), ?_⟩
  intro v5o p5hv
  refine hQ _ p5hv)
def T_Z_rmk : ZT := fun args I L R S Q => ∃ (d : JdS) (x : Int), args = [zvr 40, zvi x] ∧ (zSh S) ∧ (zRs R) ∧ (zCf d I) ∧ (r32 x) ∧ ∀ (v : Int), (v = jRm d x) → Q (some (zvi (v))) I L R S
theorem sn_Z_rmk : ZSnd 2 11 37 T_Z_rmk := ZSnd.of (zT11_37 1) (by
  rintro args I L R S Q hz ⟨d, x, rfl, hS, hR, hCf, hr, hQ⟩
  refine And.intro rfl ?_
  refine And.intro (zA_40 hS) (zrdR (v := some 63) (zR_40_8 hR) ?_)
  refine And.intro (zA_63 hS) ⟨_, sn_C_remAt.up (by decide), ?_⟩
  refine ⟨d, (x : Int), rfl, hS, hR, (by first | exact (zCf_fr hCf (fun c j h => rfl)) | (clear hQ; grind [xu])), (by omega), ?_⟩
  intro v5o p5hv
  refine hQ _ p5hv)
def T_V_kinG : ZT := fun args I L R S Q => ∃ (k : Nat) (O : OoS) (j : Int), args = [zvr k, zvi j] ∧ (zSh S) ∧ (zRs R) ∧ (zDy zT20 zF20 k R S) ∧ (zOM k O I L) ∧ (oGd O) ∧ (r32 j) ∧ ∀ (v : Int) (I' : ZI), ((I' k 0 = 0 ∧ (0 ≤ j ∧ j < ocn O) ∧ v = okd O j.toNat) ∨ (I' k 0 = 1 ∧ ¬ (0 ≤ j ∧ j < ocn O))) → (∀ c j : Nat, ¬ (c = k ∧ j = 0) → I' c j = I c j) → Q (some (zvi (v))) I' L R S
theorem sn_V_kinG : ZSnd 2 20 20 T_V_kinG := ZSnd.of (zT20_20 1) (by
  rintro args I L R S Q hz ⟨k, O, j, rfl, hS, hR, hD, hO, hG, hr, hQ⟩
  obtain ⟨o1, o2, o3, o4⟩ := id hO
  obtain ⟨g1, g2, g3, g4, g5⟩ := id hG
  have hk40 := hD.1
  refine And.intro rfl ?_
  refine And.intro (zDX hD 0 rfl) ⟨_, sn_V_isG.up (by decide), ?_⟩
  refine ⟨_, _, (j : Int), rfl, hS, hR, hD, (by first | exact (zOM_fr hO (fun c j h => rfl) (fun c j h => rfl)) | (clear hQ; grind [xu])), (by first | exact hG | (clear hQ; grind [xu])), (by omega), ?_⟩
  intro v3o p3hv
  refine And.intro (by omega) ⟨fun h6 => ?_, fun h6 => ?_⟩
  · refine And.intro (zDX hD 0 rfl) ⟨_, (zWi (zRb rfl)), ?_⟩
    refine And.intro (zDX hD 0 rfl) (zrd (v := 1) zxe ?_)
    refine And.intro (zRb rfl) (zbt rfl ?_)
    refine hQ _ _ (by first | exact Or.inl ⟨zxe, by omega, by omega⟩ | exact Or.inr ⟨zxe, by omega⟩) (fun c j h0 => (zxcj h0 rfl))
  · refine And.intro (zDX hD 0 rfl) ⟨_, (zWi (zRb rfl)), ?_⟩
    refine And.intro (zDX hD 0 rfl) (zrd (v := 0) zxe ?_)
    refine And.intro (zRb rfl) (zbf rfl ?_)
    refine And.intro (zDX hD 0 rfl) (zrdR (v := some (k + 2)) (zDR hD 1 rfl) ?_)
    refine And.intro (zDP hD 2 rfl rfl (by omega) (by omega)) (fun v29 e29 r29 => ?_)
    have f29 : v29 = okd O j.toNat := (e29.trans (zxu (by omega) (o2 j.toNat (by omega)).1))
    refine hQ _ _ (by first | exact Or.inl ⟨zxe, by omega, by omega⟩ | exact Or.inr ⟨zxe, by omega⟩) (fun c j h0 => (zxcj h0 rfl)))
def T_V_nmG : ZT := fun args I L R S Q => ∃ (k : Nat) (O : OoS) (j : Int) (w : Int), args = [zvr k, zvi j, zvi w] ∧ (zSh S) ∧ (zRs R) ∧ (zDy zT20 zF20 k R S) ∧ (zOM k O I L) ∧ (oGd O) ∧ (r32 j ∧ r32 w) ∧ ∀ (v : Int) (I' : ZI), ((I' k 0 = 0 ∧ ((0 ≤ j ∧ j < ocn O) ∧ 0 ≤ w ∧ w < oCt (okd O j.toNat).toNat 0) ∧ v = onm O j.toNat w.toNat) ∨ (I' k 0 = 1 ∧ ¬ ((0 ≤ j ∧ j < ocn O) ∧ 0 ≤ w ∧ w < oCt (okd O j.toNat).toNat 0))) → (∀ c j : Nat, ¬ (c = k ∧ j = 0) → I' c j = I c j) → Q (some (zvl (v))) I' L R S
theorem sn_V_nmG : ZSnd 3 20 27 T_V_nmG := ZSnd.of (zT20_27 2) (by
  rintro args I L R S Q hz ⟨k, O, j, w, rfl, hS, hR, hD, hO, hG, hr, hQ⟩
  obtain ⟨o1, o2, o3, o4⟩ := id hO
  obtain ⟨g1, g2, g3, g4, g5⟩ := id hG
  have hk40 := hD.1
  have hq := fun (h : (okd O j.toNat).toNat < 10) => (oCi_q (okd O j.toNat).toNat h 0 (by decide) 0 (by decide)).2.2
  refine And.intro rfl ?_
  refine And.intro (zDX hD 0 rfl) ⟨_, sn_V_isG.up (by decide), ?_⟩
  refine ⟨_, _, (j : Int), rfl, hS, hR, hD, (by first | exact (zOM_fr hO (fun c j h => rfl) (fun c j h => rfl)) | (clear hQ; grind [xu])), (by first | exact hG | (clear hQ; grind [xu])), (by omega), ?_⟩
  intro v3o p3hv
  refine And.intro (by omega) ⟨fun h6 => ?_, fun h6 => ?_⟩
  · refine And.intro (zDX hD 0 rfl) ⟨_, (zWi (zRb rfl)), ?_⟩
    refine And.intro (zDX hD 0 rfl) (zrd (v := 1) zxe ?_)
    refine And.intro (zRb rfl) (zbt rfl ?_)
    refine hQ _ _ (by first | exact Or.inl ⟨zxe, by omega, by omega⟩ | exact Or.inr ⟨zxe, by omega⟩) (fun c j h0 => (zxcj h0 rfl))
  · refine And.intro (zDX hD 0 rfl) (zrdR (v := some (k + 2)) (zDR hD 1 rfl) ?_)
    refine And.intro (zDP hD 2 rfl rfl (by omega) (by omega)) (fun v14 e14 r14 => ?_)
    have f14 : v14 = okd O j.toNat := (e14.trans (o2 j.toNat (by omega)).1)
    have f14b : 0 ≤ v14 ∧ v14 ≤ 9 := (by have w := (g2 j.toNat (by omega)).1; omega)
    refine ⟨_, sn_V_fof.up (by decide), ?_⟩
    refine ⟨(v14 : Int), (okd O j.toNat).toNat, (w : Int), (0 : Int), 0, rfl, (by omega), (by omega), (by omega), ?_⟩
    intro v17o p17hv p17bhv2
    refine And.intro ⟨(by omega), (zRb rfl)⟩ ⟨fun h21 => ?_, fun h21 => ?_⟩
    · refine And.intro (zDX hD 0 rfl) ⟨_, (zWi (zRb rfl)), ?_⟩
      refine And.intro (zDX hD 0 rfl) (zrd (v := 1) zxe ?_)
      refine And.intro (zRb rfl) (zbt rfl ?_)
      refine hQ _ _ (by first | exact Or.inl ⟨zxe, by omega, by omega⟩ | exact Or.inr ⟨zxe, by omega⟩) (fun c j h0 => (zxcj h0 rfl))
    · have t21 : 0 ≤ w ∧ w ≤ 4 := (by have z := hq (by omega); omega)
      refine And.intro (zDX hD 0 rfl) ⟨_, (zWi (zRb rfl)), ?_⟩
      refine And.intro (zDX hD 0 rfl) (zrd (v := 0) zxe ?_)
      refine And.intro (zRb rfl) (zbf rfl ?_)
      refine And.intro (zDX hD 0 rfl) (zrdR (v := some (k + 4)) (zDR hD 3 rfl) ?_)
      refine And.intro (zDP hD 4 rfl rfl (by omega) (by omega)) (fun v48 e48 r48 => ?_)
      have f48 : v48 = onm O j.toNat w.toNat := (e48.trans ((congrArg (L (k + 4)) (by have z := hq (by omega); omega)).trans (o3 j.toNat w.toNat (by omega) (by have z := hq (by omega); omega))))
      refine hQ _ _ (by first | exact Or.inl ⟨zxe, by omega, by omega⟩ | exact Or.inr ⟨zxe, by omega⟩) (fun c j h0 => (zxcj h0 rfl)))
def T_Y_knd0 : ZT := fun args I L R S Q => ∃ (j : Int), args = [zvr 165, zvi j] ∧ (zSh S) ∧ (zRs R) ∧ (I 165 4 = -1) ∧ Q (some (zvi (-1))) I L R S
theorem sn_Y_knd0 : ZSnd 3 21 33 T_Y_knd0 := ZSnd.of (zT21_33 2) (by
  rintro args I L R S Q hz ⟨j, rfl, hS, hR, hf, hQ⟩
  refine And.intro rfl ?_
  refine And.intro (zA_165 hS) (zrd (v := (-1)) hf ?_)
  refine And.intro ⟨(zRb rfl), (zRb rfl)⟩ (zbf rfl ?_)
  refine hQ )
def T_Y_nbr0 : ZT := fun args I L R S Q => ∃ (j : Int) (w : Int), args = [zvr 165, zvi j, zvi w] ∧ (zSh S) ∧ (zRs R) ∧ (I 165 4 = -1) ∧ Q (some (zvl (0))) I L R S
theorem sn_Y_nbr0 : ZSnd 4 21 41 T_Y_nbr0 := ZSnd.of (zT21_41 3) (by
  rintro args I L R S Q hz ⟨j, w, rfl, hS, hR, hf, hQ⟩
  refine And.intro rfl ?_
  refine And.intro (zA_165 hS) (zrd (v := (-1)) hf ?_)
  refine And.intro ⟨(zRb rfl), (zRb rfl)⟩ (zbf rfl ?_)
  refine hQ )
def T_Y_wrt0 : ZT := fun args I L R S Q => ∃ (j : Int), args = [zvr 165, zvi j] ∧ (zSh S) ∧ (zRs R) ∧ (I 165 4 = -1) ∧ Q (some (zvi (-1))) I L R S
theorem sn_Y_wrt0 : ZSnd 7 21 80 T_Y_wrt0 := ZSnd.of (zT21_80 6) (by
  rintro args I L R S Q hz ⟨j, rfl, hS, hR, hf, hQ⟩
  refine And.intro rfl ?_
  refine And.intro (zA_165 hS) (zrd (v := (-1)) hf ?_)
  refine And.intro ⟨(zRb rfl), (zRb rfl)⟩ (zbt rfl ?_)
  refine hQ )
def T_Y_knd1 : ZT := fun args I L R S Q => ∃ (O : OoS) (j : Int), args = [zvr 165, zvi j] ∧ (zSh S) ∧ (zRs R) ∧ (I 165 4 = 0) ∧ (zOM 168 O I L) ∧ (oGd O) ∧ (r32 j) ∧ ∀ (v : Int) (I' : ZI), (v = kdV O j) → (∀ c j : Nat, ¬ (c = 168 ∧ j = 0) → I' c j = I c j) → Q (some (zvi (v))) I' L R S
theorem sn_Y_knd1 : ZSnd 3 21 33 T_Y_knd1 := ZSnd.of (zT21_33 2) (by
  rintro args I L R S Q hz ⟨O, j, rfl, hS, hR, hf, hO, hG, hr, hQ⟩
  have hDk := zDy_168 hR hS
  refine And.intro rfl ?_
  refine And.intro (zA_165 hS) (zrd (v := 0) hf ?_)
  refine And.intro ⟨(zRb rfl), (zRb rfl)⟩ (zbt rfl ?_)
  refine And.intro (zA_165 hS) (zrdR (v := some 167) (zR_165_3 hR) ?_)
  refine And.intro (zA_165 hS) (zrd (v := 0) hf ?_)
  refine And.intro (zP_167 hS (by omega) (by omega)) (zrdR (v := some 168) (zR_167_0 hR) ?_)
  refine And.intro (zA_168 hS) ⟨_, sn_V_kinG.up (by decide), ?_⟩
  refine ⟨168, O, (j : Int), rfl, hS, hR, hDk, (by first | exact (zOM_fr hO (fun c j h => rfl) (fun c j h => rfl)) | (clear hQ; grind [xu])), (by first | exact hG | (clear hQ; grind [xu])), (by omega), ?_⟩
  intro v20o I20o p20hv p20bfr
  have g20 : (v20o = okd O j.toNat ∧ 0 ≤ okd O j.toNat ∧ okd O j.toNat ≤ 9) ∨ I20o 168 0 = 1 := (by rcases p20hv with y | y; exact Or.inl ⟨y.2.2, (hG.2.1 j.toNat (by omega)).1⟩; exact Or.inr y.1)
  refine And.intro (zA_165 hS) (zrdR (v := some 167) (zR_165_3 hR) ?_)
  refine And.intro (zA_165 hS) (zrd (v := 0) ((p20bfr 165 4 (by omega)).trans hf) ?_)
  refine And.intro (zP_167 hS (by omega) (by omega)) (zrdR (v := some 168) (zR_167_0 hR) ?_)
  refine And.intro (zA_168 hS) (Exists.intro _ (And.intro (zinl_ok (zT20_51 1)) (And.intro rfl ?_)))
  refine And.intro (zA_168 hS) (fun v1_33 e1_33 r1_33 => ?_)
  refine And.intro r1_33 ⟨fun h36 => ?_, fun h36 => ?_⟩
  · refine hQ _ _ ?_ (fun c j h0 => ((p20bfr c j h0).trans rfl))
    · rcases p20hv with y | y
      · first
        | (exfalso; omega)
        | (unfold kdV; rw [if_pos y.2.1]; exact y.2.2)
      · first
        | (exfalso; omega)
        | (unfold kdV; rw [if_neg y.2])
  · refine hQ _ _ ?_ (fun c j h0 => ((p20bfr c j h0).trans rfl))
    · rcases p20hv with y | y
      · first
        | (exfalso; omega)
        | (unfold kdV; rw [if_pos y.2.1]; exact y.2.2)
      · first
        | (exfalso; omega)
        | (unfold kdV; rw [if_neg y.2]))
def T_Y_nbr1 : ZT := fun args I L R S Q => ∃ (O : OoS) (j : Int) (w : Int), args = [zvr 165, zvi j, zvi w] ∧ (zSh S) ∧ (zRs R) ∧ (I 165 4 = 0) ∧ (zOM 168 O I L) ∧ (oGd O) ∧ (oZe O) ∧ (r32 j ∧ r32 w) ∧ ∀ (v : Int) (I' : ZI), (v = nmV O j w) → (∀ c j : Nat, ¬ (c = 168 ∧ j = 0) → I' c j = I c j) → Q (some (zvl (v))) I' L R S
theorem sn_Y_nbr1 : ZSnd 4 21 41 T_Y_nbr1 := ZSnd.of (zT21_41 3) (by
  rintro args I L R S Q hz ⟨O, j, w, rfl, hS, hR, hf, hO, hG, hZe, hr, hQ⟩
  have hDk := zDy_168 hR hS
  refine And.intro rfl ?_
  refine And.intro (zA_165 hS) (zrd (v := 0) hf ?_)
  refine And.intro ⟨(zRb rfl), (zRb rfl)⟩ (zbt rfl ?_)
  refine And.intro (zA_165 hS) (zrdR (v := some 167) (zR_165_3 hR) ?_)
  refine And.intro (zA_165 hS) (zrd (v := 0) hf ?_)
  refine And.intro (zP_167 hS (by omega) (by omega)) (zrdR (v := some 168) (zR_167_0 hR) ?_)
  refine And.intro (zA_168 hS) ⟨_, sn_V_nmG.up (by decide), ?_⟩
  refine ⟨168, O, (j : Int), (w : Int), rfl, hS, hR, hDk, (by first | exact (zOM_fr hO (fun c j h => rfl) (fun c j h => rfl)) | (clear hQ; grind [xu])), (by first | exact hG | (clear hQ; grind [xu])), (by omega), ?_⟩
  intro v21o I21o p21hv p21bfr
  refine And.intro (zA_165 hS) (zrdR (v := some 167) (zR_165_3 hR) ?_)
  refine And.intro (zA_165 hS) (zrd (v := 0) ((p21bfr 165 4 (by omega)).trans hf) ?_)
  refine And.intro (zP_167 hS (by omega) (by omega)) (zrdR (v := some 168) (zR_167_0 hR) ?_)
  refine And.intro (zA_168 hS) (Exists.intro _ (And.intro (zinl_ok (zT20_51 2)) (And.intro rfl ?_)))
  refine And.intro (zA_168 hS) (fun v1_34 e1_34 r1_34 => ?_)
  refine And.intro r1_34 ⟨fun h37 => ?_, fun h37 => ?_⟩
  · refine hQ _ _ ?_ (fun c j h0 => ((p21bfr c j h0).trans rfl))
    · rcases p21hv with y | y
      · first
        | (exfalso; omega)
        | (have hc := (oCi_q (okd O j.toNat).toNat (by have z := (hG.2.1 j.toNat (by omega)).1; omega) 0 (by decide) 0 (by decide)).2.2
           unfold nmV
           rw [if_pos ⟨y.2.1.1, y.2.1.2.1, by omega⟩]
           exact y.2.2)
      · first
        | (exfalso; omega)
        | exact (nmV_n y.2 hZe).symm
  · refine hQ _ _ ?_ (fun c j h0 => ((p21bfr c j h0).trans rfl))
    · rcases p21hv with y | y
      · first
        | (exfalso; omega)
        | (have hc := (oCi_q (okd O j.toNat).toNat (by have z := (hG.2.1 j.toNat (by omega)).1; omega) 0 (by decide) 0 (by decide)).2.2
           unfold nmV
           rw [if_pos ⟨y.2.1.1, y.2.1.2.1, by omega⟩]
           exact y.2.2)
      · first
        | (exfalso; omega)
        | exact (nmV_n y.2 hZe).symm)
def T_Y_wrt1 : ZT := fun args I L R S Q => ∃ (O : OoS) (dp : Nat → Nat) (fm : Int) (i : Int), args = [zvr 165, zvi i] ∧ (zSh S) ∧ (zRs R) ∧ (I 165 4 = 0) ∧ (zOM 168 O I L) ∧ (oGd O) ∧ (oNg O) ∧ (zOU 168 O I) ∧ (I 168 1 = fm) ∧ (0 ≤ fm ∧ fm ≤ 1) ∧ (wPre O dp) ∧ (∀ m x, m ≤ ocn O → x ≤ 200 → (wWr O dp fm m x).length + 2900 ≤ 110000) ∧ (∀ j, j < ocn O → okd O j = 9 → otl O j 0 ≤ 2000) ∧ (zPS 168 O (wPg O dp fm) I) ∧ ((wPg O dp fm).length ≤ 110000) ∧ (ocn O ≠ 0) ∧ (r32 i) ∧ ∀ (v : Int) (I' : ZI), (v = pgV (wPg O dp fm) i) → (zPS 168 O (wPg O dp fm) I') → (∀ c j : Nat, ¬ (c = 168 ∧ j = 0) → ¬ (c = 168 ∧ j = 26) → ¬ (c = 168 ∧ j = 27) → ¬ c = 180 → I' c j = I c j) → Q (some (zvi (v))) I' L R S
theorem sn_Y_wrt1 : ZSnd 7 21 80 T_Y_wrt1 := ZSnd.of (zT21_80 6) (by
  rintro args I L R S Q hz ⟨O, dp, fm, i, rfl, hS, hR, hf, hO, hG, hN, hU, hfm, hfm2, hp, hW, h9, hPS, hpl, hn0, hr, hQ⟩
  have hDk := zDy_168 hR hS
  refine And.intro rfl ?_
  refine And.intro (zA_165 hS) (zrd (v := 0) hf ?_)
  refine And.intro ⟨(zRb rfl), (zRb rfl)⟩ (zbf rfl ?_)
  refine And.intro (by omega) ⟨fun h9 => ?_, fun h9 => ?_⟩
  · refine And.intro (zA_165 hS) (zrdR (v := some 167) (zR_165_3 hR) ?_)
    refine And.intro (zA_165 hS) (zrd (v := 0) hf ?_)
    refine And.intro (zP_167 hS (by omega) (by omega)) (zrdR (v := some 168) (zR_167_0 hR) ?_)
    refine And.intro (zA_168 hS) ⟨_, sn_V_wri.up (by decide), ?_⟩
    refine ⟨168, O, dp, fm, (i : Int), rfl, hDk, (by first | exact (zOM_fr hO (fun c j h => rfl) (fun c j h => rfl)) | (clear hQ; grind [xu])), (by first | exact hG | (clear hQ; grind [xu])), (by first | exact hN | (clear hQ; grind [xu])), (by first | exact (zOU_fr hU (fun c j h => rfl)) | (clear hQ; grind [xu])), (by omega), hfm, (by omega), (by first | exact hp | (clear hQ; grind [xu])), (by first | exact hW | (clear hQ; grind [xu])), (by first | exact h9 | (clear hQ; grind [xu])), (by first | exact (zPS_fr hPS (fun c j h => rfl)) | (clear hQ; grind [xu])), (by first | exact hpl | (clear hQ; grind [xu])), ?_⟩
    intro v26o I26o p26hth p26bhv p26bbhs2 p26bbbfr
    refine hQ _ _ (by first | exact (p26bhv.trans (wOt_p hn0 (by omega))) | (unfold pgV; rw [if_neg (by omega)])) (by first | exact p26bbhs2 | exact hPS) (fun c j h0 h1 h2 h3 => ((p26bbbfr c j h0 h1 h2 h3).trans rfl))
  · refine hQ _ _ (by first | exact (p26bhv.trans (wOt_p hn0 (by omega))) | (unfold pgV; rw [if_neg (by omega)])) (by first | exact p26bbhs2 | exact hPS) (fun c j h0 h1 h2 h3 => rfl))
def T_Y_knd2 : ZT := fun args I L R S Q => ∃ (O : OoS) (j : Int), args = [zvr 165, zvi j] ∧ (zSh S) ∧ (zRs R) ∧ (I 165 4 = 1) ∧ (zOM 181 O I L) ∧ (oGd O) ∧ (r32 j) ∧ ∀ (v : Int) (I' : ZI), (v = kdV O j) → (∀ c j : Nat, ¬ (c = 181 ∧ j = 0) → I' c j = I c j) → Q (some (zvi (v))) I' L R S
theorem sn_Y_knd2 : ZSnd 3 21 33 T_Y_knd2 := ZSnd.of (zT21_33 2) (by
  rintro args I L R S Q hz ⟨O, j, rfl, hS, hR, hf, hO, hG, hr, hQ⟩
  have hDk := zDy_181 hR hS
  refine And.intro rfl ?_
  refine And.intro (zA_165 hS) (zrd (v := 1) hf ?_)
  refine And.intro ⟨(zRb rfl), (zRb rfl)⟩ (zbt rfl ?_)
  refine And.intro (zA_165 hS) (zrdR (v := some 167) (zR_165_3 hR) ?_)
  refine And.intro (zA_165 hS) (zrd (v := 1) hf ?_)
  refine And.intro (zP_167 hS (by omega) (by omega)) (zrdR (v := some 181) (zR_167_1 hR) ?_)
  refine And.intro (zA_181 hS) ⟨_, sn_V_kinG.up (by decide), ?_⟩
  refine ⟨181, O, (j : Int), rfl, hS, hR, hDk, (by first | exact (zOM_fr hO (fun c j h => rfl) (fun c j h => rfl)) | (clear hQ; grind [xu])), (by first | exact hG | (clear hQ; grind [xu])), (by omega), ?_⟩
  intro v20o I20o p20hv p20bfr
  have g20 : (v20o = okd O j.toNat ∧ 0 ≤ okd O j.toNat ∧ okd O j.toNat ≤ 9) ∨ I20o 181 0 = 1 := (by rcases p20hv with y | y; exact Or.inl ⟨y.2.2, (hG.2.1 j.toNat (by omega)).1⟩; exact Or.inr y.1)
  refine And.intro (zA_165 hS) (zrdR (v := some 167) (zR_165_3 hR) ?_)
  refine And.intro (zA_165 hS) (zrd (v := 1) ((p20bfr 165 4 (by omega)).trans hf) ?_)
  refine And.intro (zP_167 hS (by omega) (by omega)) (zrdR (v := some 181) (zR_167_1 hR) ?_)
  refine And.intro (zA_181 hS) (Exists.intro _ (And.intro (zinl_ok (zT20_51 1)) (And.intro rfl ?_)))
  refine And.intro (zA_181 hS) (fun v1_33 e1_33 r1_33 => ?_)
  refine And.intro r1_33 ⟨fun h36 => ?_, fun h36 => ?_⟩
  · refine hQ _ _ ?_ (fun c j h0 => ((p20bfr c j h0).trans rfl))
    · rcases p20hv with y | y
      · first
        | (exfalso; omega)
        | (unfold kdV; rw [if_pos y.2.1]; exact y.2.2)
      · first
        | (exfalso; omega)
        | (unfold kdV; rw [if_neg y.2])
  · refine hQ _ _ ?_ (fun c j h0 => ((p20bfr c j h0).trans rfl))
    · rcases p20hv with y | y
      · first
        | (exfalso; omega)
        | (unfold kdV; rw [if_pos y.2.1]; exact y.2.2)
      · first
        | (exfalso; omega)
        | (unfold kdV; rw [if_neg y.2]))
def T_Y_nbr2 : ZT := fun args I L R S Q => ∃ (O : OoS) (j : Int) (w : Int), args = [zvr 165, zvi j, zvi w] ∧ (zSh S) ∧ (zRs R) ∧ (I 165 4 = 1) ∧ (zOM 181 O I L) ∧ (oGd O) ∧ (oZe O) ∧ (r32 j ∧ r32 w) ∧ ∀ (v : Int) (I' : ZI), (v = nmV O j w) → (∀ c j : Nat, ¬ (c = 181 ∧ j = 0) → I' c j = I c j) → Q (some (zvl (v))) I' L R S
theorem sn_Y_nbr2 : ZSnd 4 21 41 T_Y_nbr2 := ZSnd.of (zT21_41 3) (by
  rintro args I L R S Q hz ⟨O, j, w, rfl, hS, hR, hf, hO, hG, hZe, hr, hQ⟩
  have hDk := zDy_181 hR hS
  refine And.intro rfl ?_
  refine And.intro (zA_165 hS) (zrd (v := 1) hf ?_)
  refine And.intro ⟨(zRb rfl), (zRb rfl)⟩ (zbt rfl ?_)
  refine And.intro (zA_165 hS) (zrdR (v := some 167) (zR_165_3 hR) ?_)
  refine And.intro (zA_165 hS) (zrd (v := 1) hf ?_)
  refine And.intro (zP_167 hS (by omega) (by omega)) (zrdR (v := some 181) (zR_167_1 hR) ?_)
  refine And.intro (zA_181 hS) ⟨_, sn_V_nmG.up (by decide), ?_⟩
  refine ⟨181, O, (j : Int), (w : Int), rfl, hS, hR, hDk, (by first | exact (zOM_fr hO (fun c j h => rfl) (fun c j h => rfl)) | (clear hQ; grind [xu])), (by first | exact hG | (clear hQ; grind [xu])), (by omega), ?_⟩
  intro v21o I21o p21hv p21bfr
  refine And.intro (zA_165 hS) (zrdR (v := some 167) (zR_165_3 hR) ?_)
  refine And.intro (zA_165 hS) (zrd (v := 1) ((p21bfr 165 4 (by omega)).trans hf) ?_)
  refine And.intro (zP_167 hS (by omega) (by omega)) (zrdR (v := some 181) (zR_167_1 hR) ?_)
  refine And.intro (zA_181 hS) (Exists.intro _ (And.intro (zinl_ok (zT20_51 2)) (And.intro rfl ?_)))
  refine And.intro (zA_181 hS) (fun v1_34 e1_34 r1_34 => ?_)
  refine And.intro r1_34 ⟨fun h37 => ?_, fun h37 => ?_⟩
  · refine hQ _ _ ?_ (fun c j h0 => ((p21bfr c j h0).trans rfl))
    · rcases p21hv with y | y
      · first
        | (exfalso; omega)
        | (have hc := (oCi_q (okd O j.toNat).toNat (by have z := (hG.2.1 j.toNat (by omega)).1; omega) 0 (by decide) 0 (by decide)).2.2
           unfold nmV
           rw [if_pos ⟨y.2.1.1, y.2.1.2.1, by omega⟩]
           exact y.2.2)
      · first
        | (exfalso; omega)
        | exact (nmV_n y.2 hZe).symm
  · refine hQ _ _ ?_ (fun c j h0 => ((p21bfr c j h0).trans rfl))
    · rcases p21hv with y | y
      · first
        | (exfalso; omega)
        | (have hc := (oCi_q (okd O j.toNat).toNat (by have z := (hG.2.1 j.toNat (by omega)).1; omega) 0 (by decide) 0 (by decide)).2.2
           unfold nmV
           rw [if_pos ⟨y.2.1.1, y.2.1.2.1, by omega⟩]
           exact y.2.2)
      · first
        | (exfalso; omega)
        | exact (nmV_n y.2 hZe).symm)
def T_Y_wrt2 : ZT := fun args I L R S Q => ∃ (O : OoS) (dp : Nat → Nat) (fm : Int) (i : Int), args = [zvr 165, zvi i] ∧ (zSh S) ∧ (zRs R) ∧ (I 165 4 = 1) ∧ (zOM 181 O I L) ∧ (oGd O) ∧ (oNg O) ∧ (zOU 181 O I) ∧ (I 181 1 = fm) ∧ (0 ≤ fm ∧ fm ≤ 1) ∧ (wPre O dp) ∧ (∀ m x, m ≤ ocn O → x ≤ 200 → (wWr O dp fm m x).length + 2900 ≤ 110000) ∧ (∀ j, j < ocn O → okd O j = 9 → otl O j 0 ≤ 2000) ∧ (zPS 181 O (wPg O dp fm) I) ∧ ((wPg O dp fm).length ≤ 110000) ∧ (ocn O ≠ 0) ∧ (r32 i) ∧ ∀ (v : Int) (I' : ZI), (v = pgV (wPg O dp fm) i) → (zPS 181 O (wPg O dp fm) I') → (∀ c j : Nat, ¬ (c = 181 ∧ j = 0) → ¬ (c = 181 ∧ j = 26) → ¬ (c = 181 ∧ j = 27) → ¬ c = 193 → I' c j = I c j) → Q (some (zvi (v))) I' L R S
theorem sn_Y_wrt2 : ZSnd 7 21 80 T_Y_wrt2 := ZSnd.of (zT21_80 6) (by
  rintro args I L R S Q hz ⟨O, dp, fm, i, rfl, hS, hR, hf, hO, hG, hN, hU, hfm, hfm2, hp, hW, h9, hPS, hpl, hn0, hr, hQ⟩
  have hDk := zDy_181 hR hS
  refine And.intro rfl ?_
  refine And.intro (zA_165 hS) (zrd (v := 1) hf ?_)
  refine And.intro ⟨(zRb rfl), (zRb rfl)⟩ (zbf rfl ?_)
  refine And.intro (by omega) ⟨fun h9 => ?_, fun h9 => ?_⟩
  · refine And.intro (zA_165 hS) (zrdR (v := some 167) (zR_165_3 hR) ?_)
    refine And.intro (zA_165 hS) (zrd (v := 1) hf ?_)
    refine And.intro (zP_167 hS (by omega) (by omega)) (zrdR (v := some 181) (zR_167_1 hR) ?_)
    refine And.intro (zA_181 hS) ⟨_, sn_V_wri.up (by decide), ?_⟩
    refine ⟨181, O, dp, fm, (i : Int), rfl, hDk, (by first | exact (zOM_fr hO (fun c j h => rfl) (fun c j h => rfl)) | (clear hQ; grind [xu])), (by first | exact hG | (clear hQ; grind [xu])), (by first | exact hN | (clear hQ; grind [xu])), (by first | exact (zOU_fr hU (fun c j h => rfl)) | (clear hQ; grind [xu])), (by omega), hfm, (by omega), (by first | exact hp | (clear hQ; grind [xu])), (by first | exact hW | (clear hQ; grind [xu])), (by first | exact h9 | (clear hQ; grind [xu])), (by first | exact (zPS_fr hPS (fun c j h => rfl)) | (clear hQ; grind [xu])), (by first | exact hpl | (clear hQ; grind [xu])), ?_⟩
    intro v26o I26o p26hth p26bhv p26bbhs2 p26bbbfr
    refine hQ _ _ (by first | exact (p26bhv.trans (wOt_p hn0 (by omega))) | (unfold pgV; rw [if_neg (by omega)])) (by first | exact p26bbhs2 | exact hPS) (fun c j h0 h1 h2 h3 => ((p26bbbfr c j h0 h1 h2 h3).trans rfl))
  · refine hQ _ _ (by first | exact (p26bhv.trans (wOt_p hn0 (by omega))) | (unfold pgV; rw [if_neg (by omega)])) (by first | exact p26bbhs2 | exact hPS) (fun c j h0 h1 h2 h3 => rfl))
def T_Y_nts0 : ZT := fun args I L R S Q => args = [zvr 165] ∧ (zSh S) ∧ (zRs R) ∧ (R 165 7 = none) ∧ Q (some (zvi (0))) I L R S
theorem sn_Y_nts0 : ZSnd 2 21 39 T_Y_nts0 := ZSnd.of (zT21_39 1) (by
  rintro args I L R S Q hz ⟨rfl, hS, hR, hd, hQ⟩
  refine And.intro rfl ?_
  refine And.intro (zA_165 hS) (zrdR (v := none) hd ?_)
  refine hQ )
def T_Y_nto0 : ZT := fun args I L R S Q => ∃ (x : Int) (y : Int), args = [zvr 165, zvi x, zvi y] ∧ (zSh S) ∧ (zRs R) ∧ (R 165 7 = none) ∧ Q (some (zvi (-1))) I L R S
theorem sn_Y_nto0 : ZSnd 3 21 38 T_Y_nto0 := ZSnd.of (zT21_38 2) (by
  rintro args I L R S Q hz ⟨x, y, rfl, hS, hR, hd, hQ⟩
  refine And.intro rfl ?_
  refine And.intro (zA_165 hS) (zrdR (v := none) hd ?_)
  refine hQ )
def T_Y_nmo0 : ZT := fun args I L R S Q => ∃ (x : Int), args = [zvr 165, zvi x] ∧ (zSh S) ∧ (zRs R) ∧ (R 165 7 = none) ∧ Q (some (zvi (-1000))) I L R S
theorem sn_Y_nmo0 : ZSnd 5 21 37 T_Y_nmo0 := ZSnd.of (zT21_37 4) (by
  rintro args I L R S Q hz ⟨x, rfl, hS, hR, hd, hQ⟩
  refine And.intro rfl ?_
  refine And.intro (zA_165 hS) (zrdR (v := none) hd ?_)
  refine hQ )
def T_Y_rmk0 : ZT := fun args I L R S Q => ∃ (x : Int), args = [zvr 165, zvi x] ∧ (zSh S) ∧ (zRs R) ∧ (R 165 7 = none) ∧ Q (some (zvi (-1))) I L R S
theorem sn_Y_rmk0 : ZSnd 5 21 50 T_Y_rmk0 := ZSnd.of (zT21_50 4) (by
  rintro args I L R S Q hz ⟨x, rfl, hS, hR, hd, hQ⟩
  refine And.intro rfl ?_
  refine And.intro (zA_165 hS) (zrdR (v := none) hd ?_)
  refine hQ )
def T_Y_nts : ZT := fun args I L R S Q => ∃ (q : Nat) (d : JdS), args = [zvr 165] ∧ (zSh S) ∧ (zRs R) ∧ (R 165 7 = some q) ∧ (zDy zT18 zF18 q R S) ∧ (302 ≤ q) ∧ (zNJ q d I L) ∧ (jGd d) ∧ (zJO q d I) ∧ ∀ (v : Int) (I' : ZI), (v = (zct (jFst d) 960 : Nat)) → (∀ c j : Nat, ¬ (c = q ∧ j = 0) → I' c j = I c j) → Q (some (zvi (v))) I' L R S
theorem sn_Y_nts : ZSnd 2 21 39 T_Y_nts := ZSnd.of (zT21_39 1) (by
  rintro args I L R S Q hz ⟨q, d, rfl, hS, hR, hd, hDq, hq, hNJ, hJG, hJO, hQ⟩
  have h29 : I q 29 = (zct (jFst d) 960 : Nat) := (by rcases hJO with y | y; (obtain ⟨rt, -, -, hN⟩ := y; exact hN.1); (rw [jE_n hJG y.1]; exact y.2))
  have hzc := zct_le (jFst d) 960
  refine And.intro rfl ?_
  refine And.intro (zA_165 hS) (zrdR (v := some q) hd ?_)
  refine And.intro (zA_165 hS) (zrdR (v := some q) hd ?_)
  refine And.intro (zDX hDq 0 rfl) (Exists.intro _ (And.intro (zinl_ok (zT18_27 0)) (And.intro rfl ?_)))
  refine And.intro (zDX hDq 0 rfl) ⟨_, (zWi (zRb rfl)), ?_⟩
  refine And.intro (zDX hDq 0 rfl) (zrd (v := ((zct (jFst d) 960 : Nat))) (zxs (by decide) h29) ?_)
  refine hQ _ _ (by clear hQ; grind [xu]) (fun c j h0 => (zxcj h0 rfl)))
def T_Y_nto : ZT := fun args I L R S Q => ∃ (q : Nat) (d : JdS) (x : Int) (y : Int), args = [zvr 165, zvi x, zvi y] ∧ (zSh S) ∧ (zRs R) ∧ (R 165 7 = some q) ∧ (zDy zT18 zF18 q R S) ∧ (302 ≤ q) ∧ (zNJ q d I L) ∧ (jGd d) ∧ (zJO q d I) ∧ (r32 x ∧ r32 y) ∧ ∀ (v : Int) (I' : ZI), (v = jOf d x y) → (∀ c j : Nat, ¬ (c = q ∧ j = 0) → I' c j = I c j) → Q (some (zvi (v))) I' L R S
theorem sn_Y_nto : ZSnd 3 21 38 T_Y_nto := ZSnd.of (zT21_38 2) (by
  rintro args I L R S Q hz ⟨q, d, x, y, rfl, hS, hR, hd, hDq, hq, hNJ, hJG, hJO, hr, hQ⟩
  refine And.intro rfl ?_
  refine And.intro (zA_165 hS) (zrdR (v := some q) hd ?_)
  refine And.intro (zA_165 hS) (zrdR (v := some q) hd ?_)
  refine And.intro (zDX hDq 0 rfl) ⟨_, sn_J_netO.up (by decide), ?_⟩
  refine ⟨q, d, (x : Int), (y : Int), rfl, hDq, (by first | exact (zNJ_fr hNJ (fun c j h => rfl) (fun c j h => rfl)) | (clear hQ; grind [xu])), (by first | exact hJG | (clear hQ; grind [xu])), (by first | exact (zJO_fr hJO (fun c j h => rfl)) | (clear hQ; grind [xu])), (by omega), ?_⟩
  intro v15o I15o p15hv p15bfr
  have g15 : (I15o q 0 = 0 ∧ v15o = jOf d x y) ∨ (I15o q 0 = 1 ∧ jOf d x y = -1) := (by rcases p15hv with y9 | y9; exact Or.inl ⟨y9.1, y9.2.1⟩; exact Or.inr y9)
  refine And.intro (zA_165 hS) (zrdR (v := some q) hd ?_)
  refine And.intro (zDX hDq 0 rfl) (Exists.intro _ (And.intro (zinl_ok (zT18_33 1)) (And.intro rfl ?_)))
  refine And.intro (zDX hDq 0 rfl) (fun v1_23 e1_23 r1_23 => ?_)
  refine And.intro r1_23 ⟨fun h26 => ?_, fun h26 => ?_⟩
  · refine hQ _ _ (by omega) (fun c j h0 => ((p15bfr c j h0).trans rfl))
  · refine hQ _ _ (by omega) (fun c j h0 => ((p15bfr c j h0).trans rfl)))
def T_Y_nmo : ZT := fun args I L R S Q => ∃ (q : Nat) (d : JdS) (x : Int), args = [zvr 165, zvi x] ∧ (zSh S) ∧ (zRs R) ∧ (R 165 7 = some q) ∧ (zDy zT18 zF18 q R S) ∧ (302 ≤ q) ∧ (zNJ q d I L) ∧ (jGd d) ∧ (zJN q d I) ∧ (r32 x) ∧ ∀ (v : Int) (I' : ZI), (v = jNmI d x) → (∀ c j : Nat, ¬ (c = q ∧ j = 0) → I' c j = I c j) → Q (some (zvi (v))) I' L R S
theorem sn_Y_nmo : ZSnd 5 21 37 T_Y_nmo := ZSnd.of (zT21_37 4) (by
  rintro args I L R S Q hz ⟨q, d, x, rfl, hS, hR, hd, hDq, hq, hNJ, hJG, hJN, hr, hQ⟩
  refine And.intro rfl ?_
  refine And.intro (zA_165 hS) (zrdR (v := some q) hd ?_)
  refine And.intro (zA_165 hS) (zrdR (v := some q) hd ?_)
  refine And.intro (zDX hDq 0 rfl) ⟨_, sn_J_name.up (by decide), ?_⟩
  refine ⟨q, d, (x : Int), rfl, hDq, (by first | exact (zNJ_fr hNJ (fun c j h => rfl) (fun c j h => rfl)) | (clear hQ; grind [xu])), (by first | exact hJG | (clear hQ; grind [xu])), (by first | exact (zJN_fr hJN (fun c j h => rfl)) | (clear hQ; grind [xu])), (by omega), ?_⟩
  intro v16o I16o p16hv p16bfr
  refine And.intro (zA_165 hS) (zrdR (v := some q) hd ?_)
  refine And.intro (zDX hDq 0 rfl) (Exists.intro _ (And.intro (zinl_ok (zT18_33 3)) (And.intro rfl ?_)))
  refine And.intro (zDX hDq 0 rfl) (fun v1_24 e1_24 r1_24 => ?_)
  refine And.intro r1_24 ⟨fun h27 => ?_, fun h27 => ?_⟩
  · refine hQ _ _ (by omega) (fun c j h0 => ((p16bfr c j h0).trans rfl))
  · refine hQ _ _ (by omega) (fun c j h0 => ((p16bfr c j h0).trans rfl)))
def T_Y_nmoE : ZT := fun args I L R S Q => ∃ (q : Nat) (d : JdS) (x : Int), args = [zvr 165, zvi x] ∧ (zSh S) ∧ (zRs R) ∧ (R 165 7 = some q) ∧ (zDy zT18 zF18 q R S) ∧ (302 ≤ q) ∧ (zNJ q d I L) ∧ (jGd d) ∧ (dns d = 0) ∧ (I q 29 = 0) ∧ (r32 x) ∧ ∀ (v : Int) (I' : ZI), (v = jNmI d x) → (∀ c j : Nat, ¬ (c = q ∧ j = 0) → I' c j = I c j) → Q (some (zvi (v))) I' L R S
theorem sn_Y_nmoE : ZSnd 5 21 37 T_Y_nmoE := ZSnd.of (zT21_37 4) (by
  rintro args I L R S Q hz ⟨q, d, x, rfl, hS, hR, hd, hDq, hq, hNJ, hJG, h9, h29, hr, hQ⟩
  refine And.intro rfl ?_
  refine And.intro (zA_165 hS) (zrdR (v := some q) hd ?_)
  refine And.intro (zA_165 hS) (zrdR (v := some q) hd ?_)
  refine And.intro (zDX hDq 0 rfl) ⟨_, sn_J_nameE.up (by decide), ?_⟩
  refine ⟨q, d, (x : Int), rfl, hDq, (by first | exact (zNJ_fr hNJ (fun c j h => rfl) (fun c j h => rfl)) | (clear hQ; grind [xu])), (by first | exact hJG | (clear hQ; grind [xu])), (by omega), h29, (by omega), ?_⟩
  intro v16o I16o p16hv p16bfr
  refine And.intro (zA_165 hS) (zrdR (v := some q) hd ?_)
  refine And.intro (zDX hDq 0 rfl) (Exists.intro _ (And.intro (zinl_ok (zT18_33 3)) (And.intro rfl ?_)))
  refine And.intro (zDX hDq 0 rfl) (zrd (v := 1) p16hv ?_)
  refine And.intro (zRb rfl) (zbt rfl ?_)
  refine hQ _ _ (by rw [jE_m hJG h9]) (fun c j h0 => ((p16bfr c j h0).trans rfl)))
def T_Y_rmk : ZT := fun args I L R S Q => ∃ (q : Nat) (d : JdS) (x : Int), args = [zvr 165, zvi x] ∧ (zSh S) ∧ (zRs R) ∧ (R 165 7 = some q) ∧ (zDy zT18 zF18 q R S) ∧ (302 ≤ q) ∧ (zNJ q d I L) ∧ (jGd d) ∧ (zJN q d I) ∧ (r32 x) ∧ ∀ (v : Int) (I' : ZI), (v = jRm d x) → (∀ c j : Nat, ¬ (c = q ∧ j = 0) → I' c j = I c j) → Q (some (zvi (v))) I' L R S
theorem sn_Y_rmk : ZSnd 5 21 50 T_Y_rmk := ZSnd.of (zT21_50 4) (by
  rintro args I L R S Q hz ⟨q, d, x, rfl, hS, hR, hd, hDq, hq, hNJ, hJG, hJN, hr, hQ⟩
  refine And.intro rfl ?_
  refine And.intro (zA_165 hS) (zrdR (v := some q) hd ?_)
  refine And.intro (zA_165 hS) (zrdR (v := some q) hd ?_)
  refine And.intro (zDX hDq 0 rfl) ⟨_, sn_J_told.up (by decide), ?_⟩
  refine ⟨q, d, (x : Int), rfl, hDq, (by first | exact (zNJ_fr hNJ (fun c j h => rfl) (fun c j h => rfl)) | (clear hQ; grind [xu])), (by first | exact hJG | (clear hQ; grind [xu])), (by first | exact (zJN_fr hJN (fun c j h => rfl)) | (clear hQ; grind [xu])), (by omega), ?_⟩
  intro v16o I16o p16hv p16bfr
  refine hQ _ _ p16hv (fun c j h0 => ((p16bfr c j h0).trans rfl)))
def T_Y_rmkE : ZT := fun args I L R S Q => ∃ (q : Nat) (d : JdS) (x : Int), args = [zvr 165, zvi x] ∧ (zSh S) ∧ (zRs R) ∧ (R 165 7 = some q) ∧ (zDy zT18 zF18 q R S) ∧ (302 ≤ q) ∧ (zNJ q d I L) ∧ (jGd d) ∧ (dns d = 0) ∧ (I q 29 = 0) ∧ (r32 x) ∧ ∀ (v : Int) (I' : ZI), (v = jRm d x) → (∀ c j : Nat, ¬ (c = q ∧ j = 0) → I' c j = I c j) → Q (some (zvi (v))) I' L R S
theorem sn_Y_rmkE : ZSnd 5 21 50 T_Y_rmkE := ZSnd.of (zT21_50 4) (by
  rintro args I L R S Q hz ⟨q, d, x, rfl, hS, hR, hd, hDq, hq, hNJ, hJG, h9, h29, hr, hQ⟩
  refine And.intro rfl ?_
  refine And.intro (zA_165 hS) (zrdR (v := some q) hd ?_)
  refine And.intro (zA_165 hS) (zrdR (v := some q) hd ?_)
  refine And.intro (zDX hDq 0 rfl) ⟨_, sn_J_toldE.up (by decide), ?_⟩
  refine ⟨q, d, (x : Int), rfl, hDq, (by first | exact (zNJ_fr hNJ (fun c j h => rfl) (fun c j h => rfl)) | (clear hQ; grind [xu])), (by first | exact hJG | (clear hQ; grind [xu])), (by omega), h29, (by omega), ?_⟩
  intro v16o I16o p16hv p16bfr
  refine hQ _ _ (p16hv.trans (jE_r hJG h9).symm) (fun c j h0 => ((p16bfr c j h0).trans rfl)))
