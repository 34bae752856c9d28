/-! lwe -/
def T_A_ledz : ZT := fun args I L R S Q => ∃ (n : Int), args = [zvr 82, zvi n] ∧ (zSh S) ∧ (zRs R) ∧ (I 90 2 = 0) ∧ (r32 n) ∧ Q (some (zvi (0))) I L R S
theorem sn_A_ledz : ZSnd 2 0 12 T_A_ledz := ZSnd.of (zT0_12 1) (by
  rintro args I L R S Q hz ⟨n, rfl, hS, hR, h90, hr, hQ⟩
  obtain ⟨hr1, hr2⟩ := id hr
  refine And.intro rfl ?_
  refine And.intro (zA_82 hS) (zrdR (v := some 90) (zR_82_11 hR) ?_)
  refine And.intro (zA_90 hS) (Exists.intro _ (And.intro (zinl_ok (zT7_1 0)) (And.intro rfl ?_)))
  refine And.intro (by omega) ⟨fun h1_6 => ?_, fun h1_6 => ?_⟩
  · refine And.intro (zRb rfl) (zbt rfl ?_)
    refine And.intro ⟨(zRb rfl), (zRb rfl)⟩ (zbt rfl ?_)
    refine And.intro (Or.inl rfl) ?_
    refine hQ 
  · refine And.intro (zA_90 hS) (zrd (v := 0) h90 ?_)
    refine And.intro ⟨(by omega), (zRb rfl)⟩ ⟨fun h9_6 => ?_, (fun h9_6 => False.elim (by omega))⟩
    refine And.intro (zRb rfl) (zbt rfl ?_)
    refine And.intro ⟨(zRb rfl), (zRb rfl)⟩ (zbt rfl ?_)
    refine And.intro (Or.inl rfl) ?_
    refine hQ )
def T_Z_blz : ZT := fun args I L R S Q => ∃ (n : Int) (k : Int), args = [zvr 40, zvi n, zvi k] ∧ (zSh S) ∧ (zRs R) ∧ (I 90 2 = 0) ∧ (r32 n ∧ r32 k) ∧ Q (some (zvi (-1))) I L R S
theorem sn_Z_blz : ZSnd 3 11 4 T_Z_blz := ZSnd.of (zT11_4 2) (by
  rintro args I L R S Q hz ⟨n, k, rfl, hS, hR, h90, hr, hQ⟩
  obtain ⟨hr1, hr2⟩ := id hr
  refine And.intro rfl ?_
  refine And.intro (zA_40 hS) (zrdR (v := some 82) (zR_40_9 hR) ?_)
  refine And.intro (zA_82 hS) (Exists.intro _ (And.intro (zinl_ok (zT0_4 1)) (And.intro rfl ?_)))
  refine And.intro (by omega) ⟨fun h1_6 => ?_, fun h1_6 => ?_⟩
  · refine hQ 
  · refine And.intro (zA_82 hS) (zrdR (v := some 90) (zR_82_11 hR) ?_)
    refine And.intro (zA_90 hS) (zrd (v := 0) h90 ?_)
    refine And.intro ⟨(by omega), (zRb rfl)⟩ ⟨(fun h12_6 => False.elim (by omega)), fun h12_6 => ?_⟩
    refine hQ )
def T_Z_coz : ZT := fun args I L R S Q => ∃ (n : Int), args = [zvr 40, zvi n] ∧ (zSh S) ∧ (zRs R) ∧ (I 90 2 = 0) ∧ (r32 n) ∧ Q (some (zvl (-1))) I L R S
theorem sn_Z_coz : ZSnd 3 11 9 T_Z_coz := ZSnd.of (zT11_9 2) (by
  rintro args I L R S Q hz ⟨n, rfl, hS, hR, h90, hr, hQ⟩
  obtain ⟨hr1, hr2⟩ := id hr
  refine And.intro rfl ?_
  refine And.intro (zA_40 hS) (zrdR (v := some 82) (zR_40_9 hR) ?_)
  refine And.intro (zA_82 hS) ⟨_, sn_A_ledz.up (by decide), ?_⟩
  refine ⟨(n : Int), rfl, hS, hR, h90, (by omega), ?_⟩
  refine And.intro (zRb rfl) (zbt rfl ?_)
  refine hQ )
def T_Z_waz : ZT := fun args I L R S Q => ∃ (n : Int) (k : Int) (w : Int), args = [zvr 40, zvi n, zvi k, zvi w] ∧ (zSh S) ∧ (zRs R) ∧ (I 90 2 = 0) ∧ (r32 n ∧ r32 k ∧ r32 w) ∧ Q (some (zvi (-1))) I L R S
theorem sn_Z_waz : ZSnd 4 11 55 T_Z_waz := ZSnd.of (zT11_55 3) (by
  rintro args I L R S Q hz ⟨n, k, w, rfl, hS, hR, h90, hr, hQ⟩
  obtain ⟨hr1, hr2, hr3⟩ := id hr
  refine And.intro rfl ?_
  refine And.intro (zA_40 hS) (zrdR (v := some 82) (zR_40_9 hR) ?_)
  refine And.intro (zA_82 hS) (Exists.intro _ (And.intro (zinl_ok (zT0_28 2)) (And.intro rfl ?_)))
  refine And.intro (zA_82 hS) ⟨_, sn_A_ledz.up (by decide), ?_⟩
  refine ⟨(n : Int), rfl, hS, hR, h90, (by omega), ?_⟩
  refine And.intro (zRb rfl) (zbt rfl ?_)
  refine And.intro ⟨(zRb rfl), (zRb rfl)⟩ (zbf rfl ?_)
  refine hQ )
