/-! lwa -/
def T_Y_ssf : ZT := fun args I L R S Q => ∃ (q : Nat) (w : List CuR) (pc : Nat), args = [zvr 165] ∧ (zSh S) ∧ (zRs R) ∧ (R 165 31 = some q) ∧ (zDy zT15 zF15 q R S) ∧ (zPc q w pc I L) ∧ (cuG w) ∧ (w.length ≤ 60) ∧ (cuPq w pc) ∧ (302 ≤ q) ∧ ∀ (v : Int) (I' : ZI), (v = cuSc w pc) → (∀ c j : Nat, ¬ (c = q ∧ j = 0) → ¬ (c = q ∧ j = 17) → ¬ (c = q ∧ j = 18) → ¬ c = q + 11 → ¬ c = q + 12 → ¬ c = q + 13 → I' c j = I c j) → Q (some (zvi (v))) I' L R S
theorem sn_Y_ssf : ZSnd 7 21 71 T_Y_ssf := ZSnd.of (zT21_71 6) (by
  rintro args I L R S Q hz ⟨q, w, pc, rfl, hS, hR, hrc, hdq, hPc, hG, hcl, hpq, hq3, hQ⟩
  refine And.intro rfl ?_
  refine And.intro (zA_165 hS) (zrdR (v := some q) hrc ?_)
  refine And.intro (zA_165 hS) (zrdR (v := some q) hrc ?_)
  refine And.intro (zDX hdq 0 rfl) ⟨_, sn_W_sho.up (by decide), ?_⟩
  refine ⟨q, w, pc, rfl, hS, hR, hdq, (by first | exact (zPc_fr hPc (fun c j h => rfl) (fun c j h => rfl)) | (clear hQ; grind [xu])), (by first | exact hG | (clear hQ; grind [xu])), (by omega), (by first | exact hpq | (clear hQ; grind [xu])), ?_⟩
  intro v15o I15o p15hv p15bhv2 p15bbfr
  refine hQ _ _ (by omega) (fun c j h0 h1 h2 h3 h4 h5 => ((p15bbfr c j h0 h3 h4).trans rfl)))
def T_Y_aif : ZT := fun args I L R S Q => ∃ (q : Nat) (w : List CuR) (pc : Nat) (a : Int) (kk : Int) (wh : Int), args = [zvr 165, zvi a, zvi kk, zvi wh] ∧ (zSh S) ∧ (zRs R) ∧ (R 165 31 = some q) ∧ (zDy zT15 zF15 q R S) ∧ (zPc q w pc I L) ∧ (cuG w) ∧ (w.length ≤ 60) ∧ (cuPq w pc) ∧ (302 ≤ q) ∧ (r32 a ∧ r32 kk ∧ r32 wh) ∧ ∀ (v : Int) (I' : ZI) (L' : ZI), (v = cuAe w pc a kk wh) → (∀ c j : Nat, ¬ (c = q ∧ j = 0) → ¬ (c = q ∧ j = 17) → ¬ (c = q ∧ j = 18) → ¬ c = q + 11 → ¬ c = q + 12 → ¬ c = q + 13 → I' c j = I c j) → (∀ c j : Nat, ¬ (c = q ∧ j = 16) → L' c j = L c j) → Q (some (zvi (v))) I' L' R S
theorem sn_Y_aif : ZSnd 7 21 0 T_Y_aif := ZSnd.of (zT21_0 6) (by
  rintro args I L R S Q hz ⟨q, w, pc, a, kk, wh, rfl, hS, hR, hrc, hdq, hPc, hG, hcl, hpq, hq3, hr, hQ⟩
  refine And.intro rfl ?_
  refine And.intro (zA_165 hS) (zrdR (v := some q) hrc ?_)
  refine And.intro (zA_165 hS) (zrdR (v := some q) hrc ?_)
  refine And.intro (zDX hdq 0 rfl) ⟨_, sn_W_lin.up (by decide), ?_⟩
  refine ⟨q, w, pc, (a : Int), (kk : Int), (wh : Int), rfl, hS, hR, hdq, (by first | exact (zPc_fr hPc (fun c j h => rfl) (fun c j h => rfl)) | (clear hQ; grind [xu])), (by first | exact hG | (clear hQ; grind [xu])), (by omega), (by first | exact hpq | (clear hQ; grind [xu])), (by omega), ?_⟩
  intro v16o I16o L16o p16hv p16bhv2 p16bbfr p16bbbfrL
  refine And.intro (zA_165 hS) (zrdR (v := some q) hrc ?_)
  refine And.intro (zDX hdq 0 rfl) (Exists.intro _ (And.intro (zinl_ok (zT15_25 5)) (And.intro rfl ?_)))
  refine And.intro (zDX hdq 0 rfl) (fun v1_25 e1_25 r1_25 => ?_)
  refine And.intro r1_25 ⟨fun h28 => ?_, fun h28 => ?_⟩
  · refine hQ _ _ _ (by omega) (fun c j h0 h1 h2 h3 h4 h5 => ((p16bbfr c j h0 h1 h2 h3 h4 h5).trans rfl)) (fun c j h0 => ((p16bbbfrL c j h0).trans rfl))
  · refine hQ _ _ _ (by omega) (fun c j h0 h1 h2 h3 h4 h5 => ((p16bbfr c j h0 h1 h2 h3 h4 h5).trans rfl)) (fun c j h0 => ((p16bbbfrL c j h0).trans rfl)))
def T_Y_cof : ZT := fun args I L R S Q => ∃ (q : Nat) (w : List CuR) (pc : Nat) (a : Int), args = [zvr 165, zvi a] ∧ (zSh S) ∧ (zRs R) ∧ (R 165 31 = some q) ∧ (zDy zT15 zF15 q R S) ∧ (zPc q w pc I L) ∧ (cuG w) ∧ (w.length ≤ 60) ∧ (cuPq w pc) ∧ (302 ≤ q) ∧ (r32 a) ∧ ∀ (v : Int) (I' : ZI), (((0 ≤ a ∧ a < cuNp w) ∧ v = cuNm w a.toNat) ∨ (¬ (0 ≤ a ∧ a < cuNp w) ∧ v = -1)) → (∀ c j : Nat, ¬ (c = q ∧ j = 0) → ¬ (c = q ∧ j = 17) → ¬ (c = q ∧ j = 18) → ¬ c = q + 11 → ¬ c = q + 12 → ¬ c = q + 13 → I' c j = I c j) → Q (some (zvi (v))) I' L R S
theorem sn_Y_cof : ZSnd 6 21 6 T_Y_cof := ZSnd.of (zT21_6 5) (by
  rintro args I L R S Q hz ⟨q, w, pc, a, rfl, hS, hR, hrc, hdq, hPc, hG, hcl, hpq, hq3, hr, hQ⟩
  refine And.intro rfl ?_
  refine And.intro (zA_165 hS) (zrdR (v := some q) hrc ?_)
  refine And.intro (zA_165 hS) (zrdR (v := some q) hrc ?_)
  refine And.intro (zDX hdq 0 rfl) ⟨_, sn_W_nof.up (by decide), ?_⟩
  refine ⟨q, w, pc, (a : Int), rfl, hS, hR, hdq, (by first | exact (zPc_fr hPc (fun c j h => rfl) (fun c j h => rfl)) | (clear hQ; grind [xu])), (by first | exact hG | (clear hQ; grind [xu])), (by omega), (by first | exact hpq | (clear hQ; grind [xu])), (by omega), ?_⟩
  intro v14o I14o p14hv p14bfr
  refine And.intro (zA_165 hS) (zrdR (v := some q) hrc ?_)
  refine And.intro (zDX hdq 0 rfl) (Exists.intro _ (And.intro (zinl_ok (zT15_25 4)) (And.intro rfl ?_)))
  refine And.intro (zDX hdq 0 rfl) (fun v1_22 e1_22 r1_22 => ?_)
  refine And.intro r1_22 ⟨fun h25 => ?_, fun h25 => ?_⟩
  · refine hQ _ _ (by omega) (fun c j h0 h1 h2 h3 h4 h5 => ((p14bfr c j h0 h3 h4).trans rfl))
  · refine hQ _ _ (by omega) (fun c j h0 h1 h2 h3 h4 h5 => ((p14bfr c j h0 h3 h4).trans rfl)))
