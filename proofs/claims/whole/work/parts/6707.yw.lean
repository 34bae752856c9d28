/-! yw -/
def T_Y_cutN : ZT := fun args I L R S Q => args = [zvr 165] ∧ (zSh S) ∧ (zRs R) ∧ (R 165 12 = none) ∧ ∀ (I' : ZI), (I' 165 0 = 3) → (∀ c j : Nat, ¬ (c = 165 ∧ j = 0) → I' c j = I c j) → Q (some (zvi (-1))) I' L R S
theorem sn_Y_cutN : ZSnd 9 21 10 T_Y_cutN := ZSnd.of (zT21_10 8) (by
  rintro args I L R S Q hz ⟨rfl, hS, hR, hg, hQ⟩
  refine And.intro rfl ?_
  refine And.intro (zA_165 hS) (zrdR (v := none) hg ?_)
  refine And.intro (zA_165 hS) (Exists.intro _ (And.intro (zinl_ok (zT21_47 7)) (And.intro rfl ?_)))
  refine And.intro (zA_165 hS) ⟨_, (zWi (zRb rfl)), ?_⟩
  refine hQ _ zxe (fun c j h0 => (zxcj h0 rfl)))
def T_Y_cutF : ZT := fun args I L R S Q => ∃ (g : Nat), args = [zvr 165] ∧ (zSh S) ∧ (zRs R) ∧ (R 165 12 = some g) ∧ (I 165 29 = 10) ∧ ∀ (I' : ZI), (I' 165 0 = 1) → (∀ c j : Nat, ¬ (c = 165 ∧ j = 0) → I' c j = I c j) → Q (some (zvi (-1))) I' L R S
theorem sn_Y_cutF : ZSnd 9 21 10 T_Y_cutF := ZSnd.of (zT21_10 8) (by
  rintro args I L R S Q hz ⟨g, rfl, hS, hR, hg, hc, hQ⟩
  refine And.intro rfl ?_
  refine And.intro (zA_165 hS) (zrdR (v := some g) hg ?_)
  refine And.intro (zA_165 hS) (zrd (v := 10) hc ?_)
  refine And.intro ⟨(zRb rfl), (zRb rfl)⟩ (zbf rfl ?_)
  refine And.intro (zA_165 hS) (Exists.intro _ (And.intro (zinl_ok (zT21_47 7)) (And.intro rfl ?_)))
  refine And.intro (zA_165 hS) ⟨_, (zWi (zRb rfl)), ?_⟩
  refine hQ _ zxe (fun c j h0 => (zxcj h0 rfl)))
def T_Y_cutS : ZT := fun args I L R S Q => ∃ (g : Nat) (s : BdS) (ct : Nat), args = [zvr 165] ∧ (zSh S) ∧ (zRs R) ∧ (R 165 12 = some g) ∧ (zDy zT17 zF17 g R S) ∧ (zBB g (-1) s I L) ∧ (bGd s) ∧ (302 ≤ g) ∧ (zPB s I) ∧ (I 165 29 = ct) ∧ (ct ≤ 9) ∧ (60 < (cuS s).length) ∧ ∀ (I' : ZI), (I' 165 0 = 1) → (∀ c j : Nat, ¬ (c = 165 ∧ j = 0) → ¬ (c = 165 ∧ j = 41) → ¬ (c = 165 ∧ j = 42) → I' c j = I c j) → Q (some (zvi (-1))) I' L R S
theorem sn_Y_cutS : ZSnd 9 21 10 T_Y_cutS := ZSnd.of (zT21_10 8) (by
  rintro args I L R S Q hz ⟨g, s, ct, rfl, hS, hR, hg, hdg, hBB, hGd, hg3, hPB, hc, hc9, hlen, hQ⟩
  obtain ⟨⟨⟨gW1, gW2⟩, ⟨gH1, gH2⟩, ⟨gD1, gD2⟩, gB9⟩, ⟨gnp, gnn⟩, gc, gp, gn, gco, gnd, gun⟩ := id hGd
  have hwl : (cuS s).length ≤ 40 + bnn s * 4480 := cuS_wl gW2 gH2 gD2 gnp
  refine And.intro rfl ?_
  refine And.intro (zA_165 hS) (zrdR (v := some g) hg ?_)
  refine And.intro (zA_165 hS) (zrd (v := ct) hc ?_)
  refine And.intro ⟨(by omega), (zRb rfl)⟩ ⟨fun h19 => ?_, (fun h19 => False.elim (by omega))⟩
  refine And.intro (zA_165 hS) ⟨_, sn_Y_go0.up (by decide), ?_⟩
  refine ⟨g, s, rfl, hS, hR, hg, hdg, (by first | exact (zBB_fr hBB (fun c j h => rfl) (fun c j h => rfl)) | (clear hQ; grind [xu])), (by first | exact hGd | (clear hQ; grind [xu])), (by omega), (by first | exact hPB | (clear hQ; grind [xu])), ?_⟩
  intro I30o p30h42 p30bh41 p30bbfr
  have g30 : I30o 165 42 = (cuS s).length := p30h42
  refine And.intro (zA_165 hS) (zrd (v := ((cuS s).length)) g30 ?_)
  refine And.intro ⟨(by omega), (zRb rfl)⟩ ⟨fun h39 => ?_, fun h39 => ?_⟩
  · exact False.elim (by omega)
  · refine And.intro (zA_165 hS) (Exists.intro _ (And.intro (zinl_ok (zT21_47 7)) (And.intro rfl ?_)))
    refine And.intro (zA_165 hS) ⟨_, (zWi (zRb rfl)), ?_⟩
    refine hQ _ zxe (fun c j h0 h1 h2 => (zxcj h0 ((p30bbfr c j h1 h2).trans rfl))))
