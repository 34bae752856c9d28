/-! zx_ -/
def T_S_tkE : ZT := fun args I L R S Q => ∃ (k : Nat) (n : Nat) (e : Nat → Int) (u : Int) (z : ExR) (M : Nat), args = [zvr k, zvi u] ∧ (zSh S) ∧ (zRs R) ∧ (zDy zT8 zF8 k R S) ∧ (k = 130 ∨ k = 134) ∧ (zEt k n e I) ∧ (zEr k M z I) ∧ (402 ≤ M ∧ M ≤ 1000) ∧ (exW n z) ∧ (0 ≤ u ∧ u ≤ 126) ∧ ∀ (I' : ZI), (zEr k M (exT e u z) I') → (∀ c j : Nat, ¬ (c = k ∧ j = 2) → ¬ (c = k ∧ j = 3) → I' c j = I c j) → Q none I' L R S
theorem sn_S_tkE : ZSnd 2 8 22 T_S_tkE := by
  rintro d hd args I L R S Q hz ⟨k, n, e, u, z, M, rfl, hS, hR, hD, hk, hE, hzz, hM, hzn, hu, hQ⟩
  exact sn_S_tak d hd _ I L R S Q hz ⟨k, n, e, u, z, I k 2, I k 3, M, rfl, hS, hR, hD, hk, hE, rfl, rfl, hzz, hM, hzn.2, hu, hQ⟩

def T_S_fdE : ZT := fun args I L R S Q => ∃ (k : Nat) (n : Nat) (e : Nat → Int) (z : ExR) (M : Nat), args = [zvr k] ∧ (zSh S) ∧ (zRs R) ∧ (zDy zT8 zF8 k R S) ∧ (k = 130 ∨ k = 134) ∧ (zEt k n e I) ∧ (zEr k M z I) ∧ (402 ≤ M ∧ M ≤ 1000) ∧ (exW n z) ∧ ∀ (I' : ZI), (zEr k (M + 1) (exFd e z) I') → (∀ c j : Nat, ¬ (c = k ∧ j = 2) → ¬ (c = k ∧ j = 3) → I' c j = I c j) → Q none I' L R S
theorem sn_S_fdE : ZSnd 3 8 16 T_S_fdE := by
  rintro d hd args I L R S Q hz ⟨k, n, e, z, M, rfl, hS, hR, hD, hk, hE, hzz, hM, hzn, hQ⟩
  exact sn_S_fld d hd _ I L R S Q hz ⟨k, n, e, z, I k 2, I k 3, M, rfl, hS, hR, hD, hk, hE, rfl, rfl, hzz, hM, hzn.2, hQ⟩

def T_S_sti : ZT := fun args I L R S Q => ∃ (k : Nat) (n : Nat) (e : Nat → Int) (p : Nat) (m : Nat) (d : Int), args = [zvr k, zvi d] ∧ (zSh S) ∧ (zRs R) ∧ (zDy zT8 zF8 k R S) ∧ (k = 130 ∨ k = 134) ∧ (zEt k n e I) ∧ (p ≤ n) ∧ (I k 2 = p) ∧ (I k 3 = -1) ∧ (I k 4 = m) ∧ (m < 100) ∧ (e p ≠ 63 ∧ e p ≠ 42 ∧ e p ≠ 126 ∧ e p ≠ 91 ∧ e p ≠ 58) ∧ ∀ (I' : ZI), (zEr k 406 (stS e p) I') → (I' k 4 = m + 1) → (∀ c j : Nat, ¬ (c = k ∧ j = 2) → ¬ (c = k ∧ j = 3) → ¬ (c = k ∧ j = 4) → I' c j = I c j) → Q none I' L R S
theorem sn_S_sti : ZSnd 30 8 19 T_S_sti := ZSnd.of (zT8_19 29) (by
  rintro args I L R S Q hz ⟨k, n, e, p, m, d, rfl, hS, hR, hD, hk, hE, hp, h2, h3, h4, hm, hsi, hQ⟩
  have hk130 : 130 ≤ k := by omega
  have hk134 : k ≤ 134 := by omega
  obtain ⟨hE1, hE2, hE3⟩ := id hE
  have hn4 := hE2.1
  have hb9 := hE2.2.2 p
  have hWI : p + 1 ≤ n → exW n (exI (p + 1)) := fun h => ⟨Or.inr rfl, h⟩
  have hWF : exW n (exF p) := ⟨Or.inl rfl, hp⟩
  refine And.intro rfl ?_
  refine And.intro (zDX hD 0 rfl) (zrd (v := p) h2 ?_)
  refine And.intro (zDX hD 0 rfl) ⟨_, sn_S_let.up (by decide), ?_⟩
  refine ⟨_, n, e, (p : Int), p, rfl, hS, hR, hD, (by first | exact hk | (clear hQ; grind [xu])), hE, (by omega), ?_⟩
  intro v5o p5hv p5bhv2
  refine And.intro (zDX hD 0 rfl) (zrd (v := m) h4 ?_)
  refine And.intro ⟨(by omega), (zRb rfl)⟩ ⟨fun h15 => ?_, (fun h15 => False.elim (by omega))⟩
  refine And.intro (zDX hD 0 rfl) (zrd (v := m) h4 ?_)
  refine And.intro (zDX hD 0 rfl) ⟨_, (zWi (by omega)), ?_⟩
  refine And.intro ⟨(by omega), (zRb rfl)⟩ ⟨(fun h39 => False.elim (by omega)), fun h39 => ?_⟩
  refine And.intro ⟨(by omega), (zRb rfl)⟩ ⟨(fun h45 => False.elim (by omega)), fun h45 => ?_⟩
  refine And.intro ⟨(by omega), (zRb rfl)⟩ ⟨(fun h51 => False.elim (by omega)), fun h51 => ?_⟩
  refine And.intro ⟨(by omega), (zRb rfl)⟩ ⟨(fun h57 => False.elim (by omega)), fun h57 => ?_⟩
  refine And.intro ⟨(by omega), (zRb rfl)⟩ ⟨fun h63 => ?_, (fun h63 => False.elim (by omega))⟩
  refine Exists.intro _ (And.intro (zinl_ok (zT8_9 28)) (And.intro rfl ?_))
  refine And.intro ⟨(by omega), (zRb rfl)⟩ ⟨fun h3_74 => ?_, fun h3_74 => ?_⟩
  · refine And.intro (Or.inl rfl) ?_
    refine And.intro (zRb rfl) (zbt rfl ?_)
    refine Exists.intro _ (And.intro (zinl_ok (zT8_7 28)) (And.intro rfl ?_))
    refine And.intro ⟨(by omega), (zRb rfl)⟩ ⟨fun h3_105 => ?_, fun h3_105 => ?_⟩
    · refine And.intro (Or.inl rfl) ?_
      refine And.intro (zRb rfl) (zbt rfl ?_)
      refine And.intro ⟨(by omega), (zRb rfl)⟩ ⟨fun h127 => ?_, fun h127 => ?_⟩
      · refine And.intro (zDX hD 0 rfl) (zrd (v := p) (zxs (by decide) h2) ?_)
        refine And.intro (zDX hD 0 rfl) ⟨_, (zWi (by omega)), ?_⟩
        refine And.intro (zDX hD 0 rfl) ⟨_, sn_S_atE.up (by decide), ?_⟩
        refine ⟨_, n, e, (exI (p + 1)), 405, rfl, hS, hR, hD, (by first | exact hk | (clear hQ; grind [xu])), (by first | exact (zEt_fr hE (fun c j h => (zxcj (by omega) (zxcj (by omega) rfl)))) | (clear hQ; grind [xu])), (zEr_mk (a := p + 1) (b := -1) (by first | exact zxe | exact h2 | exact h3 | (refine zxs (by omega) ?_; first | exact zxe | exact h2 | exact h3 | (refine zxs (by omega) ?_; first | exact zxe | exact h2 | exact h3 | (refine zxs (by omega) ?_; first | exact zxe | exact h2 | exact h3)))) (by first | exact zxe | exact h2 | exact h3 | (refine zxs (by omega) ?_; first | exact zxe | exact h2 | exact h3 | (refine zxs (by omega) ?_; first | exact zxe | exact h2 | exact h3 | (refine zxs (by omega) ?_; first | exact zxe | exact h2 | exact h3)))) (Or.inl ⟨rfl, (show _ = ((p + 1 : Nat) : Int) from by omega), rfl⟩)), (by omega), (by repeat (first | exact hWF | exact hWI (eTx_lt hE2 (by omega)) | refine exT_W hE2 (by decide) ?_ | refine exG_W hE2 ?_ | refine exH_W hE2 ?_ | refine exFd_W hE2 ?_)), ?_⟩
        intro I148o p148hR p148bfr
        refine And.intro ⟨(by omega), (zRb rfl)⟩ ⟨(fun h154 => False.elim (by omega)), fun h154 => ?_⟩
        refine And.intro (zDX hD 0 rfl) ⟨_, sn_S_fdE.up (by decide), ?_⟩
        refine ⟨_, n, e, (exH e (exI (p + 1))), 405, rfl, hS, hR, hD, (by first | exact hk | (clear hQ; grind [xu])), (by first | exact (zEt_fr hE (fun c j h => ((p148bfr c j (by omega) (by omega)).trans (zxcj (by omega) (zxcj (by omega) rfl))))) | (clear hQ; grind [xu])), p148hR, (by omega), (by repeat (first | exact hWF | exact hWI (eTx_lt hE2 (by omega)) | refine exT_W hE2 (by decide) ?_ | refine exG_W hE2 ?_ | refine exH_W hE2 ?_ | refine exFd_W hE2 ?_)), ?_⟩
        intro I158o p158hR p158bfr
        refine And.intro (zDX hD 0 rfl) ⟨_, sn_S_tkE.up (by decide), ?_⟩
        refine ⟨_, n, e, (61 : Int), (exFd e (exH e (exI (p + 1)))), 406, rfl, hS, hR, hD, (by first | exact hk | (clear hQ; grind [xu])), (by first | exact (zEt_fr hE (fun c j h => ((p158bfr c j (by omega) (by omega)).trans ((p148bfr c j (by omega) (by omega)).trans (zxcj (by omega) (zxcj (by omega) rfl)))))) | (clear hQ; grind [xu])), (by first | exact p158hR | exact p148hR), (by omega), (by repeat (first | exact hWF | exact hWI (eTx_lt hE2 (by omega)) | refine exT_W hE2 (by decide) ?_ | refine exG_W hE2 ?_ | refine exH_W hE2 ?_ | refine exFd_W hE2 ?_)), (by omega), ?_⟩
        intro I164o p164hR p164bfr
        refine And.intro (zDX hD 0 rfl) ⟨_, sn_S_exE.up (by decide), ?_⟩
        refine ⟨_, n, e, (exT e 61 (exFd e (exH e (exI (p + 1))))), 406, rfl, hS, hR, hD, (by first | exact hk | (clear hQ; grind [xu])), (by first | exact (zEt_fr hE (fun c j h => ((p164bfr c j (by omega) (by omega)).trans ((p158bfr c j (by omega) (by omega)).trans ((p148bfr c j (by omega) (by omega)).trans (zxcj (by omega) (zxcj (by omega) rfl))))))) | (clear hQ; grind [xu])), p164hR, (by omega), (by repeat (first | exact hWF | exact hWI (eTx_lt hE2 (by omega)) | refine exT_W hE2 (by decide) ?_ | refine exG_W hE2 ?_ | refine exH_W hE2 ?_ | refine exFd_W hE2 ?_)), ?_⟩
        intro I169o p169hR p169bfr
        refine And.intro (zDX hD 0 rfl) ⟨_, sn_S_tkE.up (by decide), ?_⟩
        refine ⟨_, n, e, (59 : Int), (exG e (exT e 61 (exFd e (exH e (exI (p + 1)))))), 406, rfl, hS, hR, hD, (by first | exact hk | (clear hQ; grind [xu])), (by first | exact (zEt_fr hE (fun c j h => ((p169bfr c j (by omega) (by omega)).trans ((p164bfr c j (by omega) (by omega)).trans ((p158bfr c j (by omega) (by omega)).trans ((p148bfr c j (by omega) (by omega)).trans (zxcj (by omega) (zxcj (by omega) rfl)))))))) | (clear hQ; grind [xu])), (by first | exact p98hR | exact p169hR | exact p223hR | exact (zEr_mk (a := p + 1) (b := -1) (by first | exact zxe | exact h2 | exact h3 | (refine zxs (by omega) ?_; first | exact zxe | exact h2 | exact h3 | (refine zxs (by omega) ?_; first | exact zxe | exact h2 | exact h3 | (refine zxs (by omega) ?_; first | exact zxe | exact h2 | exact h3)))) (by first | exact zxe | exact h2 | exact h3 | (refine zxs (by omega) ?_; first | exact zxe | exact h2 | exact h3 | (refine zxs (by omega) ?_; first | exact zxe | exact h2 | exact h3 | (refine zxs (by omega) ?_; first | exact zxe | exact h2 | exact h3)))) (Or.inl ⟨rfl, (show _ = ((p + 1 : Nat) : Int) from by omega), rfl⟩)) | exact (zEr_mk (a := p) (b := p) (by first | exact zxe | exact h2 | exact h3 | (refine zxs (by omega) ?_; first | exact zxe | exact h2 | exact h3 | (refine zxs (by omega) ?_; first | exact zxe | exact h2 | exact h3 | (refine zxs (by omega) ?_; first | exact zxe | exact h2 | exact h3)))) (by first | exact zxe | exact h2 | exact h3 | (refine zxs (by omega) ?_; first | exact zxe | exact h2 | exact h3 | (refine zxs (by omega) ?_; first | exact zxe | exact h2 | exact h3 | (refine zxs (by omega) ?_; first | exact zxe | exact h2 | exact h3)))) (Or.inr ⟨rfl, rfl, by omega, by omega⟩))), (by omega), (by repeat (first | exact hWF | exact hWI (eTx_lt hE2 (by omega)) | refine exT_W hE2 (by decide) ?_ | refine exG_W hE2 ?_ | refine exH_W hE2 ?_ | refine exFd_W hE2 ?_)), (by omega), ?_⟩
        intro I240o p240hR p240bfr
        refine hQ _ ?_ (Eq.trans (b := ((m + 1) : Int)) ((p240bfr k 4 (by omega) (by omega)).trans ((p169bfr k 4 (by omega) (by omega)).trans ((p164bfr k 4 (by omega) (by omega)).trans ((p158bfr k 4 (by omega) (by omega)).trans ((p148bfr k 4 (by omega) (by omega)).trans (zxs (by decide) zxe)))))) (by omega)) (fun c j h0 h1 h2 => ((p240bfr c j h0 h1).trans ((p169bfr c j h0 h1).trans ((p164bfr c j h0 h1).trans ((p158bfr c j h0 h1).trans ((p148bfr c j h0 h1).trans (zxcj h0 (zxcj h2 rfl))))))))
        · first
          | (rw [stS_v (by omega)]; exact zEr_m p240hR (by decide))
          | (rw [stS_c (by omega)]; exact zEr_m p240hR (by decide))
          | (rw [stS_a (by omega)]; exact zEr_m p240hR (by decide))
          | (rw [stS_q (by omega)]; exact zEr_m p240hR (by decide))
          | (rw [stS_e (by omega)]; exact zEr_m p240hR (by decide))
          | (rw [stS_f (by omega) (by omega) (by omega) (by omega) (by omega)]; exact zEr_m p240hR (by decide))
      · refine And.intro ⟨(by omega), (zRb rfl)⟩ ⟨fun h133 => ?_, fun h133 => ?_⟩
        · refine And.intro ⟨(by omega), (zRb rfl)⟩ ⟨fun h178 => ?_, fun h178 => ?_⟩
          · refine And.intro (zDX hD 0 rfl) (zrd (v := p) (zxs (by decide) h2) ?_)
            refine And.intro (zDX hD 0 rfl) ⟨_, (zWi (by omega)), ?_⟩
            refine And.intro (zDX hD 0 rfl) ⟨_, sn_S_exE.up (by decide), ?_⟩
            refine ⟨_, n, e, (exI (p + 1)), 405, rfl, hS, hR, hD, (by first | exact hk | (clear hQ; grind [xu])), (by first | exact (zEt_fr hE (fun c j h => (zxcj (by omega) (zxcj (by omega) rfl)))) | (clear hQ; grind [xu])), (zEr_mk (a := p + 1) (b := -1) (by first | exact zxe | exact h2 | exact h3 | (refine zxs (by omega) ?_; first | exact zxe | exact h2 | exact h3 | (refine zxs (by omega) ?_; first | exact zxe | exact h2 | exact h3 | (refine zxs (by omega) ?_; first | exact zxe | exact h2 | exact h3)))) (by first | exact zxe | exact h2 | exact h3 | (refine zxs (by omega) ?_; first | exact zxe | exact h2 | exact h3 | (refine zxs (by omega) ?_; first | exact zxe | exact h2 | exact h3 | (refine zxs (by omega) ?_; first | exact zxe | exact h2 | exact h3)))) (Or.inl ⟨rfl, (show _ = ((p + 1 : Nat) : Int) from by omega), rfl⟩)), (by omega), (by repeat (first | exact hWF | exact hWI (eTx_lt hE2 (by omega)) | refine exT_W hE2 (by decide) ?_ | refine exG_W hE2 ?_ | refine exH_W hE2 ?_ | refine exFd_W hE2 ?_)), ?_⟩
            intro I223o p223hR p223bfr
            refine And.intro (zDX hD 0 rfl) ⟨_, sn_S_tkE.up (by decide), ?_⟩
            refine ⟨_, n, e, (59 : Int), (exG e (exI (p + 1))), 405, rfl, hS, hR, hD, (by first | exact hk | (clear hQ; grind [xu])), (by first | exact (zEt_fr hE (fun c j h => ((p223bfr c j (by omega) (by omega)).trans (zxcj (by omega) (zxcj (by omega) rfl))))) | (clear hQ; grind [xu])), (by first | exact p98hR | exact p169hR | exact p223hR | exact (zEr_mk (a := p + 1) (b := -1) (by first | exact zxe | exact h2 | exact h3 | (refine zxs (by omega) ?_; first | exact zxe | exact h2 | exact h3 | (refine zxs (by omega) ?_; first | exact zxe | exact h2 | exact h3 | (refine zxs (by omega) ?_; first | exact zxe | exact h2 | exact h3)))) (by first | exact zxe | exact h2 | exact h3 | (refine zxs (by omega) ?_; first | exact zxe | exact h2 | exact h3 | (refine zxs (by omega) ?_; first | exact zxe | exact h2 | exact h3 | (refine zxs (by omega) ?_; first | exact zxe | exact h2 | exact h3)))) (Or.inl ⟨rfl, (show _ = ((p + 1 : Nat) : Int) from by omega), rfl⟩)) | exact (zEr_mk (a := p) (b := p) (by first | exact zxe | exact h2 | exact h3 | (refine zxs (by omega) ?_; first | exact zxe | exact h2 | exact h3 | (refine zxs (by omega) ?_; first | exact zxe | exact h2 | exact h3 | (refine zxs (by omega) ?_; first | exact zxe | exact h2 | exact h3)))) (by first | exact zxe | exact h2 | exact h3 | (refine zxs (by omega) ?_; first | exact zxe | exact h2 | exact h3 | (refine zxs (by omega) ?_; first | exact zxe | exact h2 | exact h3 | (refine zxs (by omega) ?_; first | exact zxe | exact h2 | exact h3)))) (Or.inr ⟨rfl, rfl, by omega, by omega⟩))), (by omega), (by repeat (first | exact hWF | exact hWI (eTx_lt hE2 (by omega)) | refine exT_W hE2 (by decide) ?_ | refine exG_W hE2 ?_ | refine exH_W hE2 ?_ | refine exFd_W hE2 ?_)), (by omega), ?_⟩
            intro I240o p240hR p240bfr
            refine hQ _ ?_ (Eq.trans (b := ((m + 1) : Int)) ((p240bfr k 4 (by omega) (by omega)).trans ((p223bfr k 4 (by omega) (by omega)).trans (zxs (by decide) zxe))) (by omega)) (fun c j h0 h1 h2 => ((p240bfr c j h0 h1).trans ((p223bfr c j h0 h1).trans (zxcj h0 (zxcj h2 rfl)))))
            · first
              | (rw [stS_v (by omega)]; exact zEr_m p240hR (by decide))
              | (rw [stS_c (by omega)]; exact zEr_m p240hR (by decide))
              | (rw [stS_a (by omega)]; exact zEr_m p240hR (by decide))
              | (rw [stS_q (by omega)]; exact zEr_m p240hR (by decide))
              | (rw [stS_e (by omega)]; exact zEr_m p240hR (by decide))
              | (rw [stS_f (by omega) (by omega) (by omega) (by omega) (by omega)]; exact zEr_m p240hR (by decide))
          · refine And.intro ⟨(by omega), (zRb rfl)⟩ ⟨(fun h184 => False.elim (by omega)), fun h184 => ?_⟩
            refine And.intro ⟨(by omega), (zRb rfl)⟩ ⟨fun h190 => ?_, fun h190 => ?_⟩
            · refine And.intro (zDX hD 0 rfl) (zrd (v := p) (zxs (by decide) h2) ?_)
              refine And.intro (zDX hD 0 rfl) ⟨_, (zWi (by omega)), ?_⟩
              refine And.intro (zDX hD 0 rfl) ⟨_, sn_S_exE.up (by decide), ?_⟩
              refine ⟨_, n, e, (exI (p + 1)), 405, rfl, hS, hR, hD, (by first | exact hk | (clear hQ; grind [xu])), (by first | exact (zEt_fr hE (fun c j h => (zxcj (by omega) (zxcj (by omega) rfl)))) | (clear hQ; grind [xu])), (zEr_mk (a := p + 1) (b := -1) (by first | exact zxe | exact h2 | exact h3 | (refine zxs (by omega) ?_; first | exact zxe | exact h2 | exact h3 | (refine zxs (by omega) ?_; first | exact zxe | exact h2 | exact h3 | (refine zxs (by omega) ?_; first | exact zxe | exact h2 | exact h3)))) (by first | exact zxe | exact h2 | exact h3 | (refine zxs (by omega) ?_; first | exact zxe | exact h2 | exact h3 | (refine zxs (by omega) ?_; first | exact zxe | exact h2 | exact h3 | (refine zxs (by omega) ?_; first | exact zxe | exact h2 | exact h3)))) (Or.inl ⟨rfl, (show _ = ((p + 1 : Nat) : Int) from by omega), rfl⟩)), (by omega), (by repeat (first | exact hWF | exact hWI (eTx_lt hE2 (by omega)) | refine exT_W hE2 (by decide) ?_ | refine exG_W hE2 ?_ | refine exH_W hE2 ?_ | refine exFd_W hE2 ?_)), ?_⟩
              intro I223o p223hR p223bfr
              refine And.intro (zDX hD 0 rfl) ⟨_, sn_S_tkE.up (by decide), ?_⟩
              refine ⟨_, n, e, (59 : Int), (exG e (exI (p + 1))), 405, rfl, hS, hR, hD, (by first | exact hk | (clear hQ; grind [xu])), (by first | exact (zEt_fr hE (fun c j h => ((p223bfr c j (by omega) (by omega)).trans (zxcj (by omega) (zxcj (by omega) rfl))))) | (clear hQ; grind [xu])), (by first | exact p98hR | exact p169hR | exact p223hR | exact (zEr_mk (a := p + 1) (b := -1) (by first | exact zxe | exact h2 | exact h3 | (refine zxs (by omega) ?_; first | exact zxe | exact h2 | exact h3 | (refine zxs (by omega) ?_; first | exact zxe | exact h2 | exact h3 | (refine zxs (by omega) ?_; first | exact zxe | exact h2 | exact h3)))) (by first | exact zxe | exact h2 | exact h3 | (refine zxs (by omega) ?_; first | exact zxe | exact h2 | exact h3 | (refine zxs (by omega) ?_; first | exact zxe | exact h2 | exact h3 | (refine zxs (by omega) ?_; first | exact zxe | exact h2 | exact h3)))) (Or.inl ⟨rfl, (show _ = ((p + 1 : Nat) : Int) from by omega), rfl⟩)) | exact (zEr_mk (a := p) (b := p) (by first | exact zxe | exact h2 | exact h3 | (refine zxs (by omega) ?_; first | exact zxe | exact h2 | exact h3 | (refine zxs (by omega) ?_; first | exact zxe | exact h2 | exact h3 | (refine zxs (by omega) ?_; first | exact zxe | exact h2 | exact h3)))) (by first | exact zxe | exact h2 | exact h3 | (refine zxs (by omega) ?_; first | exact zxe | exact h2 | exact h3 | (refine zxs (by omega) ?_; first | exact zxe | exact h2 | exact h3 | (refine zxs (by omega) ?_; first | exact zxe | exact h2 | exact h3)))) (Or.inr ⟨rfl, rfl, by omega, by omega⟩))), (by omega), (by repeat (first | exact hWF | exact hWI (eTx_lt hE2 (by omega)) | refine exT_W hE2 (by decide) ?_ | refine exG_W hE2 ?_ | refine exH_W hE2 ?_ | refine exFd_W hE2 ?_)), (by omega), ?_⟩
              intro I240o p240hR p240bfr
              refine hQ _ ?_ (Eq.trans (b := ((m + 1) : Int)) ((p240bfr k 4 (by omega) (by omega)).trans ((p223bfr k 4 (by omega) (by omega)).trans (zxs (by decide) zxe))) (by omega)) (fun c j h0 h1 h2 => ((p240bfr c j h0 h1).trans ((p223bfr c j h0 h1).trans (zxcj h0 (zxcj h2 rfl)))))
              · first
                | (rw [stS_v (by omega)]; exact zEr_m p240hR (by decide))
                | (rw [stS_c (by omega)]; exact zEr_m p240hR (by decide))
                | (rw [stS_a (by omega)]; exact zEr_m p240hR (by decide))
                | (rw [stS_q (by omega)]; exact zEr_m p240hR (by decide))
                | (rw [stS_e (by omega)]; exact zEr_m p240hR (by decide))
                | (rw [stS_f (by omega) (by omega) (by omega) (by omega) (by omega)]; exact zEr_m p240hR (by decide))
            · refine And.intro ⟨(by omega), (zRb rfl)⟩ ⟨fun h196 => ?_, fun h196 => ?_⟩
              · refine And.intro (zDX hD 0 rfl) (zrd (v := p) (zxs (by decide) h2) ?_)
                refine And.intro (zDX hD 0 rfl) ⟨_, (zWi (by omega)), ?_⟩
                refine And.intro (zDX hD 0 rfl) ⟨_, sn_S_exE.up (by decide), ?_⟩
                refine ⟨_, n, e, (exI (p + 1)), 405, rfl, hS, hR, hD, (by first | exact hk | (clear hQ; grind [xu])), (by first | exact (zEt_fr hE (fun c j h => (zxcj (by omega) (zxcj (by omega) rfl)))) | (clear hQ; grind [xu])), (zEr_mk (a := p + 1) (b := -1) (by first | exact zxe | exact h2 | exact h3 | (refine zxs (by omega) ?_; first | exact zxe | exact h2 | exact h3 | (refine zxs (by omega) ?_; first | exact zxe | exact h2 | exact h3 | (refine zxs (by omega) ?_; first | exact zxe | exact h2 | exact h3)))) (by first | exact zxe | exact h2 | exact h3 | (refine zxs (by omega) ?_; first | exact zxe | exact h2 | exact h3 | (refine zxs (by omega) ?_; first | exact zxe | exact h2 | exact h3 | (refine zxs (by omega) ?_; first | exact zxe | exact h2 | exact h3)))) (Or.inl ⟨rfl, (show _ = ((p + 1 : Nat) : Int) from by omega), rfl⟩)), (by omega), (by repeat (first | exact hWF | exact hWI (eTx_lt hE2 (by omega)) | refine exT_W hE2 (by decide) ?_ | refine exG_W hE2 ?_ | refine exH_W hE2 ?_ | refine exFd_W hE2 ?_)), ?_⟩
                intro I223o p223hR p223bfr
                refine And.intro (zDX hD 0 rfl) ⟨_, sn_S_tkE.up (by decide), ?_⟩
                refine ⟨_, n, e, (59 : Int), (exG e (exI (p + 1))), 405, rfl, hS, hR, hD, (by first | exact hk | (clear hQ; grind [xu])), (by first | exact (zEt_fr hE (fun c j h => ((p223bfr c j (by omega) (by omega)).trans (zxcj (by omega) (zxcj (by omega) rfl))))) | (clear hQ; grind [xu])), (by first | exact p98hR | exact p169hR | exact p223hR | exact (zEr_mk (a := p + 1) (b := -1) (by first | exact zxe | exact h2 | exact h3 | (refine zxs (by omega) ?_; first | exact zxe | exact h2 | exact h3 | (refine zxs (by omega) ?_; first | exact zxe | exact h2 | exact h3 | (refine zxs (by omega) ?_; first | exact zxe | exact h2 | exact h3)))) (by first | exact zxe | exact h2 | exact h3 | (refine zxs (by omega) ?_; first | exact zxe | exact h2 | exact h3 | (refine zxs (by omega) ?_; first | exact zxe | exact h2 | exact h3 | (refine zxs (by omega) ?_; first | exact zxe | exact h2 | exact h3)))) (Or.inl ⟨rfl, (show _ = ((p + 1 : Nat) : Int) from by omega), rfl⟩)) | exact (zEr_mk (a := p) (b := p) (by first | exact zxe | exact h2 | exact h3 | (refine zxs (by omega) ?_; first | exact zxe | exact h2 | exact h3 | (refine zxs (by omega) ?_; first | exact zxe | exact h2 | exact h3 | (refine zxs (by omega) ?_; first | exact zxe | exact h2 | exact h3)))) (by first | exact zxe | exact h2 | exact h3 | (refine zxs (by omega) ?_; first | exact zxe | exact h2 | exact h3 | (refine zxs (by omega) ?_; first | exact zxe | exact h2 | exact h3 | (refine zxs (by omega) ?_; first | exact zxe | exact h2 | exact h3)))) (Or.inr ⟨rfl, rfl, by omega, by omega⟩))), (by omega), (by repeat (first | exact hWF | exact hWI (eTx_lt hE2 (by omega)) | refine exT_W hE2 (by decide) ?_ | refine exG_W hE2 ?_ | refine exH_W hE2 ?_ | refine exFd_W hE2 ?_)), (by omega), ?_⟩
                intro I240o p240hR p240bfr
                refine hQ _ ?_ (Eq.trans (b := ((m + 1) : Int)) ((p240bfr k 4 (by omega) (by omega)).trans ((p223bfr k 4 (by omega) (by omega)).trans (zxs (by decide) zxe))) (by omega)) (fun c j h0 h1 h2 => ((p240bfr c j h0 h1).trans ((p223bfr c j h0 h1).trans (zxcj h0 (zxcj h2 rfl)))))
                · first
                  | (rw [stS_v (by omega)]; exact zEr_m p240hR (by decide))
                  | (rw [stS_c (by omega)]; exact zEr_m p240hR (by decide))
                  | (rw [stS_a (by omega)]; exact zEr_m p240hR (by decide))
                  | (rw [stS_q (by omega)]; exact zEr_m p240hR (by decide))
                  | (rw [stS_e (by omega)]; exact zEr_m p240hR (by decide))
                  | (rw [stS_f (by omega) (by omega) (by omega) (by omega) (by omega)]; exact zEr_m p240hR (by decide))
              · refine And.intro ⟨(by omega), (zRb rfl)⟩ ⟨(fun h202 => False.elim (by omega)), fun h202 => ?_⟩
                refine And.intro ⟨(by omega), (zRb rfl)⟩ ⟨fun h208 => ?_, fun h208 => ?_⟩
                · have t208 : e p ≠ 33 ∧ e p ≠ 94 ∧ e p ≠ 43 ∧ e p ≠ 38 ∧ e p ≠ 124 ∧ e p ≠ 60 := (by omega)
                  refine And.intro (zDX hD 0 rfl) (zrd (v := p) (zxs (by decide) h2) ?_)
                  refine And.intro (zDX hD 0 rfl) (Exists.intro _ (And.intro (zinl_ok (zT8_2 28)) (And.intro rfl ?_)))
                  refine And.intro (zDX hD 0 rfl) (zrd (v := (-1)) (zxs (by decide) h3) ?_)
                  refine And.intro ⟨(zRb rfl), (zRb rfl)⟩ (zbf rfl ?_)
                  refine And.intro (zDX hD 0 rfl) ⟨_, (zWi (by omega)), ?_⟩
                  refine And.intro (zDX hD 0 rfl) ⟨_, sn_S_tkE.up (by decide), ?_⟩
                  refine ⟨_, n, e, (59 : Int), (exF p), 405, rfl, hS, hR, hD, (by first | exact hk | (clear hQ; grind [xu])), (by first | exact (zEt_fr hE (fun c j h => (zxcj (by omega) (zxcj (by omega) rfl)))) | (clear hQ; grind [xu])), (by first | exact p98hR | exact p169hR | exact p223hR | exact (zEr_mk (a := p + 1) (b := -1) (by first | exact zxe | exact h2 | exact h3 | (refine zxs (by omega) ?_; first | exact zxe | exact h2 | exact h3 | (refine zxs (by omega) ?_; first | exact zxe | exact h2 | exact h3 | (refine zxs (by omega) ?_; first | exact zxe | exact h2 | exact h3)))) (by first | exact zxe | exact h2 | exact h3 | (refine zxs (by omega) ?_; first | exact zxe | exact h2 | exact h3 | (refine zxs (by omega) ?_; first | exact zxe | exact h2 | exact h3 | (refine zxs (by omega) ?_; first | exact zxe | exact h2 | exact h3)))) (Or.inl ⟨rfl, (show _ = ((p + 1 : Nat) : Int) from by omega), rfl⟩)) | exact (zEr_mk (a := p) (b := p) (by first | exact zxe | exact h2 | exact h3 | (refine zxs (by omega) ?_; first | exact zxe | exact h2 | exact h3 | (refine zxs (by omega) ?_; first | exact zxe | exact h2 | exact h3 | (refine zxs (by omega) ?_; first | exact zxe | exact h2 | exact h3)))) (by first | exact zxe | exact h2 | exact h3 | (refine zxs (by omega) ?_; first | exact zxe | exact h2 | exact h3 | (refine zxs (by omega) ?_; first | exact zxe | exact h2 | exact h3 | (refine zxs (by omega) ?_; first | exact zxe | exact h2 | exact h3)))) (Or.inr ⟨rfl, rfl, by omega, by omega⟩))), (by omega), (by repeat (first | exact hWF | exact hWI (eTx_lt hE2 (by omega)) | refine exT_W hE2 (by decide) ?_ | refine exG_W hE2 ?_ | refine exH_W hE2 ?_ | refine exFd_W hE2 ?_)), (by omega), ?_⟩
                  intro I240o p240hR p240bfr
                  refine hQ _ ?_ (Eq.trans (b := ((m + 1) : Int)) ((p240bfr k 4 (by omega) (by omega)).trans (zxs (by decide) zxe)) (by omega)) (fun c j h0 h1 h2 => ((p240bfr c j h0 h1).trans (zxcj h1 (zxcj h2 rfl))))
                  · first
                    | (rw [stS_v (by omega)]; exact zEr_m p240hR (by decide))
                    | (rw [stS_c (by omega)]; exact zEr_m p240hR (by decide))
                    | (rw [stS_a (by omega)]; exact zEr_m p240hR (by decide))
                    | (rw [stS_q (by omega)]; exact zEr_m p240hR (by decide))
                    | (rw [stS_e (by omega)]; exact zEr_m p240hR (by decide))
                    | (rw [stS_f (by omega) (by omega) (by omega) (by omega) (by omega)]; exact zEr_m p240hR (by decide))
                · refine And.intro (zDX hD 0 rfl) (zrd (v := p) (zxs (by decide) h2) ?_)
                  refine And.intro (zDX hD 0 rfl) ⟨_, (zWi (by omega)), ?_⟩
                  refine And.intro (zDX hD 0 rfl) ⟨_, sn_S_exE.up (by decide), ?_⟩
                  refine ⟨_, n, e, (exI (p + 1)), 405, rfl, hS, hR, hD, (by first | exact hk | (clear hQ; grind [xu])), (by first | exact (zEt_fr hE (fun c j h => (zxcj (by omega) (zxcj (by omega) rfl)))) | (clear hQ; grind [xu])), (zEr_mk (a := p + 1) (b := -1) (by first | exact zxe | exact h2 | exact h3 | (refine zxs (by omega) ?_; first | exact zxe | exact h2 | exact h3 | (refine zxs (by omega) ?_; first | exact zxe | exact h2 | exact h3 | (refine zxs (by omega) ?_; first | exact zxe | exact h2 | exact h3)))) (by first | exact zxe | exact h2 | exact h3 | (refine zxs (by omega) ?_; first | exact zxe | exact h2 | exact h3 | (refine zxs (by omega) ?_; first | exact zxe | exact h2 | exact h3 | (refine zxs (by omega) ?_; first | exact zxe | exact h2 | exact h3)))) (Or.inl ⟨rfl, (show _ = ((p + 1 : Nat) : Int) from by omega), rfl⟩)), (by omega), (by repeat (first | exact hWF | exact hWI (eTx_lt hE2 (by omega)) | refine exT_W hE2 (by decide) ?_ | refine exG_W hE2 ?_ | refine exH_W hE2 ?_ | refine exFd_W hE2 ?_)), ?_⟩
                  intro I223o p223hR p223bfr
                  refine And.intro (zDX hD 0 rfl) ⟨_, sn_S_tkE.up (by decide), ?_⟩
                  refine ⟨_, n, e, (59 : Int), (exG e (exI (p + 1))), 405, rfl, hS, hR, hD, (by first | exact hk | (clear hQ; grind [xu])), (by first | exact (zEt_fr hE (fun c j h => ((p223bfr c j (by omega) (by omega)).trans (zxcj (by omega) (zxcj (by omega) rfl))))) | (clear hQ; grind [xu])), (by first | exact p98hR | exact p169hR | exact p223hR | exact (zEr_mk (a := p + 1) (b := -1) (by first | exact zxe | exact h2 | exact h3 | (refine zxs (by omega) ?_; first | exact zxe | exact h2 | exact h3 | (refine zxs (by omega) ?_; first | exact zxe | exact h2 | exact h3 | (refine zxs (by omega) ?_; first | exact zxe | exact h2 | exact h3)))) (by first | exact zxe | exact h2 | exact h3 | (refine zxs (by omega) ?_; first | exact zxe | exact h2 | exact h3 | (refine zxs (by omega) ?_; first | exact zxe | exact h2 | exact h3 | (refine zxs (by omega) ?_; first | exact zxe | exact h2 | exact h3)))) (Or.inl ⟨rfl, (show _ = ((p + 1 : Nat) : Int) from by omega), rfl⟩)) | exact (zEr_mk (a := p) (b := p) (by first | exact zxe | exact h2 | exact h3 | (refine zxs (by omega) ?_; first | exact zxe | exact h2 | exact h3 | (refine zxs (by omega) ?_; first | exact zxe | exact h2 | exact h3 | (refine zxs (by omega) ?_; first | exact zxe | exact h2 | exact h3)))) (by first | exact zxe | exact h2 | exact h3 | (refine zxs (by omega) ?_; first | exact zxe | exact h2 | exact h3 | (refine zxs (by omega) ?_; first | exact zxe | exact h2 | exact h3 | (refine zxs (by omega) ?_; first | exact zxe | exact h2 | exact h3)))) (Or.inr ⟨rfl, rfl, by omega, by omega⟩))), (by omega), (by repeat (first | exact hWF | exact hWI (eTx_lt hE2 (by omega)) | refine exT_W hE2 (by decide) ?_ | refine exG_W hE2 ?_ | refine exH_W hE2 ?_ | refine exFd_W hE2 ?_)), (by omega), ?_⟩
                  intro I240o p240hR p240bfr
                  refine hQ _ ?_ (Eq.trans (b := ((m + 1) : Int)) ((p240bfr k 4 (by omega) (by omega)).trans ((p223bfr k 4 (by omega) (by omega)).trans (zxs (by decide) zxe))) (by omega)) (fun c j h0 h1 h2 => ((p240bfr c j h0 h1).trans ((p223bfr c j h0 h1).trans (zxcj h0 (zxcj h2 rfl)))))
                  · first
                    | (rw [stS_v (by omega)]; exact zEr_m p240hR (by decide))
                    | (rw [stS_c (by omega)]; exact zEr_m p240hR (by decide))
                    | (rw [stS_a (by omega)]; exact zEr_m p240hR (by decide))
                    | (rw [stS_q (by omega)]; exact zEr_m p240hR (by decide))
                    | (rw [stS_e (by omega)]; exact zEr_m p240hR (by decide))
                    | (rw [stS_f (by omega) (by omega) (by omega) (by omega) (by omega)]; exact zEr_m p240hR (by decide))
        · refine And.intro (zDX hD 0 rfl) (zrd (v := p) (zxs (by decide) h2) ?_)
          refine And.intro (zDX hD 0 rfl) ⟨_, (zWi (by omega)), ?_⟩
          refine And.intro (zDX hD 0 rfl) ⟨_, sn_S_atE.up (by decide), ?_⟩
          refine ⟨_, n, e, (exI (p + 1)), 405, rfl, hS, hR, hD, (by first | exact hk | (clear hQ; grind [xu])), (by first | exact (zEt_fr hE (fun c j h => (zxcj (by omega) (zxcj (by omega) rfl)))) | (clear hQ; grind [xu])), (zEr_mk (a := p + 1) (b := -1) (by first | exact zxe | exact h2 | exact h3 | (refine zxs (by omega) ?_; first | exact zxe | exact h2 | exact h3 | (refine zxs (by omega) ?_; first | exact zxe | exact h2 | exact h3 | (refine zxs (by omega) ?_; first | exact zxe | exact h2 | exact h3)))) (by first | exact zxe | exact h2 | exact h3 | (refine zxs (by omega) ?_; first | exact zxe | exact h2 | exact h3 | (refine zxs (by omega) ?_; first | exact zxe | exact h2 | exact h3 | (refine zxs (by omega) ?_; first | exact zxe | exact h2 | exact h3)))) (Or.inl ⟨rfl, (show _ = ((p + 1 : Nat) : Int) from by omega), rfl⟩)), (by omega), (by repeat (first | exact hWF | exact hWI (eTx_lt hE2 (by omega)) | refine exT_W hE2 (by decide) ?_ | refine exG_W hE2 ?_ | refine exH_W hE2 ?_ | refine exFd_W hE2 ?_)), ?_⟩
          intro I148o p148hR p148bfr
          refine And.intro ⟨(by omega), (zRb rfl)⟩ ⟨fun h154 => ?_, (fun h154 => False.elim (by omega))⟩
          refine And.intro (zDX hD 0 rfl) ⟨_, sn_S_tkE.up (by decide), ?_⟩
          refine ⟨_, n, e, (61 : Int), (exH e (exI (p + 1))), 405, rfl, hS, hR, hD, (by first | exact hk | (clear hQ; grind [xu])), (by first | exact (zEt_fr hE (fun c j h => ((p148bfr c j (by omega) (by omega)).trans (zxcj (by omega) (zxcj (by omega) rfl))))) | (clear hQ; grind [xu])), (by first | exact p158hR | exact p148hR), (by omega), (by repeat (first | exact hWF | exact hWI (eTx_lt hE2 (by omega)) | refine exT_W hE2 (by decide) ?_ | refine exG_W hE2 ?_ | refine exH_W hE2 ?_ | refine exFd_W hE2 ?_)), (by omega), ?_⟩
          intro I164o p164hR p164bfr
          refine And.intro (zDX hD 0 rfl) ⟨_, sn_S_exE.up (by decide), ?_⟩
          refine ⟨_, n, e, (exT e 61 (exH e (exI (p + 1)))), 405, rfl, hS, hR, hD, (by first | exact hk | (clear hQ; grind [xu])), (by first | exact (zEt_fr hE (fun c j h => ((p164bfr c j (by omega) (by omega)).trans ((p148bfr c j (by omega) (by omega)).trans (zxcj (by omega) (zxcj (by omega) rfl)))))) | (clear hQ; grind [xu])), p164hR, (by omega), (by repeat (first | exact hWF | exact hWI (eTx_lt hE2 (by omega)) | refine exT_W hE2 (by decide) ?_ | refine exG_W hE2 ?_ | refine exH_W hE2 ?_ | refine exFd_W hE2 ?_)), ?_⟩
          intro I169o p169hR p169bfr
          refine And.intro (zDX hD 0 rfl) ⟨_, sn_S_tkE.up (by decide), ?_⟩
          refine ⟨_, n, e, (59 : Int), (exG e (exT e 61 (exH e (exI (p + 1))))), 405, rfl, hS, hR, hD, (by first | exact hk | (clear hQ; grind [xu])), (by first | exact (zEt_fr hE (fun c j h => ((p169bfr c j (by omega) (by omega)).trans ((p164bfr c j (by omega) (by omega)).trans ((p148bfr c j (by omega) (by omega)).trans (zxcj (by omega) (zxcj (by omega) rfl))))))) | (clear hQ; grind [xu])), (by first | exact p98hR | exact p169hR | exact p223hR | exact (zEr_mk (a := p + 1) (b := -1) (by first | exact zxe | exact h2 | exact h3 | (refine zxs (by omega) ?_; first | exact zxe | exact h2 | exact h3 | (refine zxs (by omega) ?_; first | exact zxe | exact h2 | exact h3 | (refine zxs (by omega) ?_; first | exact zxe | exact h2 | exact h3)))) (by first | exact zxe | exact h2 | exact h3 | (refine zxs (by omega) ?_; first | exact zxe | exact h2 | exact h3 | (refine zxs (by omega) ?_; first | exact zxe | exact h2 | exact h3 | (refine zxs (by omega) ?_; first | exact zxe | exact h2 | exact h3)))) (Or.inl ⟨rfl, (show _ = ((p + 1 : Nat) : Int) from by omega), rfl⟩)) | exact (zEr_mk (a := p) (b := p) (by first | exact zxe | exact h2 | exact h3 | (refine zxs (by omega) ?_; first | exact zxe | exact h2 | exact h3 | (refine zxs (by omega) ?_; first | exact zxe | exact h2 | exact h3 | (refine zxs (by omega) ?_; first | exact zxe | exact h2 | exact h3)))) (by first | exact zxe | exact h2 | exact h3 | (refine zxs (by omega) ?_; first | exact zxe | exact h2 | exact h3 | (refine zxs (by omega) ?_; first | exact zxe | exact h2 | exact h3 | (refine zxs (by omega) ?_; first | exact zxe | exact h2 | exact h3)))) (Or.inr ⟨rfl, rfl, by omega, by omega⟩))), (by omega), (by repeat (first | exact hWF | exact hWI (eTx_lt hE2 (by omega)) | refine exT_W hE2 (by decide) ?_ | refine exG_W hE2 ?_ | refine exH_W hE2 ?_ | refine exFd_W hE2 ?_)), (by omega), ?_⟩
          intro I240o p240hR p240bfr
          refine hQ _ ?_ (Eq.trans (b := ((m + 1) : Int)) ((p240bfr k 4 (by omega) (by omega)).trans ((p169bfr k 4 (by omega) (by omega)).trans ((p164bfr k 4 (by omega) (by omega)).trans ((p148bfr k 4 (by omega) (by omega)).trans (zxs (by decide) zxe))))) (by omega)) (fun c j h0 h1 h2 => ((p240bfr c j h0 h1).trans ((p169bfr c j h0 h1).trans ((p164bfr c j h0 h1).trans ((p148bfr c j h0 h1).trans (zxcj h0 (zxcj h2 rfl)))))))
          · first
            | (rw [stS_v (by omega)]; exact zEr_m p240hR (by decide))
            | (rw [stS_c (by omega)]; exact zEr_m p240hR (by decide))
            | (rw [stS_a (by omega)]; exact zEr_m p240hR (by decide))
            | (rw [stS_q (by omega)]; exact zEr_m p240hR (by decide))
            | (rw [stS_e (by omega)]; exact zEr_m p240hR (by decide))
            | (rw [stS_f (by omega) (by omega) (by omega) (by omega) (by omega)]; exact zEr_m p240hR (by decide))
    · refine And.intro ⟨(by omega), (zRb rfl)⟩ ⟨fun h9_105 => ?_, fun h9_105 => ?_⟩
      · refine And.intro (Or.inl rfl) ?_
        refine And.intro (zRb rfl) (zbt rfl ?_)
        refine And.intro ⟨(by omega), (zRb rfl)⟩ ⟨(fun h127 => False.elim (by omega)), fun h127 => ?_⟩
        refine And.intro ⟨(by omega), (zRb rfl)⟩ ⟨fun h133 => ?_, (fun h133 => False.elim (by omega))⟩
        refine And.intro ⟨(by omega), (zRb rfl)⟩ ⟨(fun h178 => False.elim (by omega)), fun h178 => ?_⟩
        refine And.intro ⟨(by omega), (zRb rfl)⟩ ⟨fun h184 => ?_, fun h184 => ?_⟩
        · refine And.intro (zDX hD 0 rfl) (zrd (v := p) (zxs (by decide) h2) ?_)
          refine And.intro (zDX hD 0 rfl) ⟨_, (zWi (by omega)), ?_⟩
          refine And.intro (zDX hD 0 rfl) ⟨_, sn_S_exE.up (by decide), ?_⟩
          refine ⟨_, n, e, (exI (p + 1)), 405, rfl, hS, hR, hD, (by first | exact hk | (clear hQ; grind [xu])), (by first | exact (zEt_fr hE (fun c j h => (zxcj (by omega) (zxcj (by omega) rfl)))) | (clear hQ; grind [xu])), (zEr_mk (a := p + 1) (b := -1) (by first | exact zxe | exact h2 | exact h3 | (refine zxs (by omega) ?_; first | exact zxe | exact h2 | exact h3 | (refine zxs (by omega) ?_; first | exact zxe | exact h2 | exact h3 | (refine zxs (by omega) ?_; first | exact zxe | exact h2 | exact h3)))) (by first | exact zxe | exact h2 | exact h3 | (refine zxs (by omega) ?_; first | exact zxe | exact h2 | exact h3 | (refine zxs (by omega) ?_; first | exact zxe | exact h2 | exact h3 | (refine zxs (by omega) ?_; first | exact zxe | exact h2 | exact h3)))) (Or.inl ⟨rfl, (show _ = ((p + 1 : Nat) : Int) from by omega), rfl⟩)), (by omega), (by repeat (first | exact hWF | exact hWI (eTx_lt hE2 (by omega)) | refine exT_W hE2 (by decide) ?_ | refine exG_W hE2 ?_ | refine exH_W hE2 ?_ | refine exFd_W hE2 ?_)), ?_⟩
          intro I223o p223hR p223bfr
          refine And.intro (zDX hD 0 rfl) ⟨_, sn_S_tkE.up (by decide), ?_⟩
          refine ⟨_, n, e, (59 : Int), (exG e (exI (p + 1))), 405, rfl, hS, hR, hD, (by first | exact hk | (clear hQ; grind [xu])), (by first | exact (zEt_fr hE (fun c j h => ((p223bfr c j (by omega) (by omega)).trans (zxcj (by omega) (zxcj (by omega) rfl))))) | (clear hQ; grind [xu])), (by first | exact p98hR | exact p169hR | exact p223hR | exact (zEr_mk (a := p + 1) (b := -1) (by first | exact zxe | exact h2 | exact h3 | (refine zxs (by omega) ?_; first | exact zxe | exact h2 | exact h3 | (refine zxs (by omega) ?_; first | exact zxe | exact h2 | exact h3 | (refine zxs (by omega) ?_; first | exact zxe | exact h2 | exact h3)))) (by first | exact zxe | exact h2 | exact h3 | (refine zxs (by omega) ?_; first | exact zxe | exact h2 | exact h3 | (refine zxs (by omega) ?_; first | exact zxe | exact h2 | exact h3 | (refine zxs (by omega) ?_; first | exact zxe | exact h2 | exact h3)))) (Or.inl ⟨rfl, (show _ = ((p + 1 : Nat) : Int) from by omega), rfl⟩)) | exact (zEr_mk (a := p) (b := p) (by first | exact zxe | exact h2 | exact h3 | (refine zxs (by omega) ?_; first | exact zxe | exact h2 | exact h3 | (refine zxs (by omega) ?_; first | exact zxe | exact h2 | exact h3 | (refine zxs (by omega) ?_; first | exact zxe | exact h2 | exact h3)))) (by first | exact zxe | exact h2 | exact h3 | (refine zxs (by omega) ?_; first | exact zxe | exact h2 | exact h3 | (refine zxs (by omega) ?_; first | exact zxe | exact h2 | exact h3 | (refine zxs (by omega) ?_; first | exact zxe | exact h2 | exact h3)))) (Or.inr ⟨rfl, rfl, by omega, by omega⟩))), (by omega), (by repeat (first | exact hWF | exact hWI (eTx_lt hE2 (by omega)) | refine exT_W hE2 (by decide) ?_ | refine exG_W hE2 ?_ | refine exH_W hE2 ?_ | refine exFd_W hE2 ?_)), (by omega), ?_⟩
          intro I240o p240hR p240bfr
          refine hQ _ ?_ (Eq.trans (b := ((m + 1) : Int)) ((p240bfr k 4 (by omega) (by omega)).trans ((p223bfr k 4 (by omega) (by omega)).trans (zxs (by decide) zxe))) (by omega)) (fun c j h0 h1 h2 => ((p240bfr c j h0 h1).trans ((p223bfr c j h0 h1).trans (zxcj h0 (zxcj h2 rfl)))))
          · first
            | (rw [stS_v (by omega)]; exact zEr_m p240hR (by decide))
            | (rw [stS_c (by omega)]; exact zEr_m p240hR (by decide))
            | (rw [stS_a (by omega)]; exact zEr_m p240hR (by decide))
            | (rw [stS_q (by omega)]; exact zEr_m p240hR (by decide))
            | (rw [stS_e (by omega)]; exact zEr_m p240hR (by decide))
            | (rw [stS_f (by omega) (by omega) (by omega) (by omega) (by omega)]; exact zEr_m p240hR (by decide))
        · refine And.intro ⟨(by omega), (zRb rfl)⟩ ⟨(fun h190 => False.elim (by omega)), fun h190 => ?_⟩
          refine And.intro ⟨(by omega), (zRb rfl)⟩ ⟨(fun h196 => False.elim (by omega)), fun h196 => ?_⟩
          refine And.intro ⟨(by omega), (zRb rfl)⟩ ⟨(fun h202 => False.elim (by omega)), fun h202 => ?_⟩
          refine And.intro ⟨(by omega), (zRb rfl)⟩ ⟨fun h208 => ?_, (fun h208 => False.elim (by omega))⟩
          have t208 : e p ≠ 33 ∧ e p ≠ 94 ∧ e p ≠ 43 ∧ e p ≠ 38 ∧ e p ≠ 124 ∧ e p ≠ 60 := (by omega)
          refine And.intro (zDX hD 0 rfl) (zrd (v := p) (zxs (by decide) h2) ?_)
          refine And.intro (zDX hD 0 rfl) (Exists.intro _ (And.intro (zinl_ok (zT8_2 28)) (And.intro rfl ?_)))
          refine And.intro (zDX hD 0 rfl) (zrd (v := (-1)) (zxs (by decide) h3) ?_)
          refine And.intro ⟨(zRb rfl), (zRb rfl)⟩ (zbf rfl ?_)
          refine And.intro (zDX hD 0 rfl) ⟨_, (zWi (by omega)), ?_⟩
          refine And.intro (zDX hD 0 rfl) ⟨_, sn_S_tkE.up (by decide), ?_⟩
          refine ⟨_, n, e, (59 : Int), (exF p), 405, rfl, hS, hR, hD, (by first | exact hk | (clear hQ; grind [xu])), (by first | exact (zEt_fr hE (fun c j h => (zxcj (by omega) (zxcj (by omega) rfl)))) | (clear hQ; grind [xu])), (by first | exact p98hR | exact p169hR | exact p223hR | exact (zEr_mk (a := p + 1) (b := -1) (by first | exact zxe | exact h2 | exact h3 | (refine zxs (by omega) ?_; first | exact zxe | exact h2 | exact h3 | (refine zxs (by omega) ?_; first | exact zxe | exact h2 | exact h3 | (refine zxs (by omega) ?_; first | exact zxe | exact h2 | exact h3)))) (by first | exact zxe | exact h2 | exact h3 | (refine zxs (by omega) ?_; first | exact zxe | exact h2 | exact h3 | (refine zxs (by omega) ?_; first | exact zxe | exact h2 | exact h3 | (refine zxs (by omega) ?_; first | exact zxe | exact h2 | exact h3)))) (Or.inl ⟨rfl, (show _ = ((p + 1 : Nat) : Int) from by omega), rfl⟩)) | exact (zEr_mk (a := p) (b := p) (by first | exact zxe | exact h2 | exact h3 | (refine zxs (by omega) ?_; first | exact zxe | exact h2 | exact h3 | (refine zxs (by omega) ?_; first | exact zxe | exact h2 | exact h3 | (refine zxs (by omega) ?_; first | exact zxe | exact h2 | exact h3)))) (by first | exact zxe | exact h2 | exact h3 | (refine zxs (by omega) ?_; first | exact zxe | exact h2 | exact h3 | (refine zxs (by omega) ?_; first | exact zxe | exact h2 | exact h3 | (refine zxs (by omega) ?_; first | exact zxe | exact h2 | exact h3)))) (Or.inr ⟨rfl, rfl, by omega, by omega⟩))), (by omega), (by repeat (first | exact hWF | exact hWI (eTx_lt hE2 (by omega)) | refine exT_W hE2 (by decide) ?_ | refine exG_W hE2 ?_ | refine exH_W hE2 ?_ | refine exFd_W hE2 ?_)), (by omega), ?_⟩
          intro I240o p240hR p240bfr
          refine hQ _ ?_ (Eq.trans (b := ((m + 1) : Int)) ((p240bfr k 4 (by omega) (by omega)).trans (zxs (by decide) zxe)) (by omega)) (fun c j h0 h1 h2 => ((p240bfr c j h0 h1).trans (zxcj h1 (zxcj h2 rfl))))
          · first
            | (rw [stS_v (by omega)]; exact zEr_m p240hR (by decide))
            | (rw [stS_c (by omega)]; exact zEr_m p240hR (by decide))
            | (rw [stS_a (by omega)]; exact zEr_m p240hR (by decide))
            | (rw [stS_q (by omega)]; exact zEr_m p240hR (by decide))
            | (rw [stS_e (by omega)]; exact zEr_m p240hR (by decide))
            | (rw [stS_f (by omega) (by omega) (by omega) (by omega) (by omega)]; exact zEr_m p240hR (by decide))
      · refine And.intro (Or.inr rfl) ?_
        refine And.intro (zRb rfl) (zbf rfl ?_)
        refine And.intro (zDX hD 0 rfl) (zrd (v := p) (zxs (by decide) h2) ?_)
        refine And.intro (zDX hD 0 rfl) ⟨_, (zWi (by omega)), ?_⟩
        refine And.intro (zDX hD 0 rfl) ⟨_, sn_S_tkE.up (by decide), ?_⟩
        refine ⟨_, n, e, (59 : Int), (exI (p + 1)), 405, rfl, hS, hR, hD, (by first | exact hk | (clear hQ; grind [xu])), (by first | exact (zEt_fr hE (fun c j h => (zxcj (by omega) (zxcj (by omega) rfl)))) | (clear hQ; grind [xu])), (by first | exact p98hR | exact p169hR | exact p223hR | exact (zEr_mk (a := p + 1) (b := -1) (by first | exact zxe | exact h2 | exact h3 | (refine zxs (by omega) ?_; first | exact zxe | exact h2 | exact h3 | (refine zxs (by omega) ?_; first | exact zxe | exact h2 | exact h3 | (refine zxs (by omega) ?_; first | exact zxe | exact h2 | exact h3)))) (by first | exact zxe | exact h2 | exact h3 | (refine zxs (by omega) ?_; first | exact zxe | exact h2 | exact h3 | (refine zxs (by omega) ?_; first | exact zxe | exact h2 | exact h3 | (refine zxs (by omega) ?_; first | exact zxe | exact h2 | exact h3)))) (Or.inl ⟨rfl, (show _ = ((p + 1 : Nat) : Int) from by omega), rfl⟩)) | exact (zEr_mk (a := p) (b := p) (by first | exact zxe | exact h2 | exact h3 | (refine zxs (by omega) ?_; first | exact zxe | exact h2 | exact h3 | (refine zxs (by omega) ?_; first | exact zxe | exact h2 | exact h3 | (refine zxs (by omega) ?_; first | exact zxe | exact h2 | exact h3)))) (by first | exact zxe | exact h2 | exact h3 | (refine zxs (by omega) ?_; first | exact zxe | exact h2 | exact h3 | (refine zxs (by omega) ?_; first | exact zxe | exact h2 | exact h3 | (refine zxs (by omega) ?_; first | exact zxe | exact h2 | exact h3)))) (Or.inr ⟨rfl, rfl, by omega, by omega⟩))), (by omega), (by repeat (first | exact hWF | exact hWI (eTx_lt hE2 (by omega)) | refine exT_W hE2 (by decide) ?_ | refine exG_W hE2 ?_ | refine exH_W hE2 ?_ | refine exFd_W hE2 ?_)), (by omega), ?_⟩
        intro I240o p240hR p240bfr
        refine hQ _ ?_ (Eq.trans (b := ((m + 1) : Int)) ((p240bfr k 4 (by omega) (by omega)).trans (zxs (by decide) zxe)) (by omega)) (fun c j h0 h1 h2 => ((p240bfr c j h0 h1).trans (zxcj h0 (zxcj h2 rfl))))
        · first
          | (rw [stS_v (by omega)]; exact zEr_m p240hR (by decide))
          | (rw [stS_c (by omega)]; exact zEr_m p240hR (by decide))
          | (rw [stS_a (by omega)]; exact zEr_m p240hR (by decide))
          | (rw [stS_q (by omega)]; exact zEr_m p240hR (by decide))
          | (rw [stS_e (by omega)]; exact zEr_m p240hR (by decide))
          | (rw [stS_f (by omega) (by omega) (by omega) (by omega) (by omega)]; exact zEr_m p240hR (by decide))
  · refine And.intro ⟨(by omega), (zRb rfl)⟩ ⟨fun h9_74 => ?_, fun h9_74 => ?_⟩
    · refine And.intro (Or.inl rfl) ?_
      refine And.intro (zRb rfl) (zbt rfl ?_)
      refine Exists.intro _ (And.intro (zinl_ok (zT8_7 28)) (And.intro rfl ?_))
      refine And.intro ⟨(by omega), (zRb rfl)⟩ ⟨(fun h3_105 => False.elim (by omega)), fun h3_105 => ?_⟩
      refine And.intro ⟨(by omega), (zRb rfl)⟩ ⟨fun h9_105 => ?_, (fun h9_105 => False.elim (by omega))⟩
      refine And.intro (Or.inl rfl) ?_
      refine And.intro (zRb rfl) (zbt rfl ?_)
      refine And.intro ⟨(by omega), (zRb rfl)⟩ ⟨(fun h127 => False.elim (by omega)), fun h127 => ?_⟩
      refine And.intro ⟨(by omega), (zRb rfl)⟩ ⟨fun h133 => ?_, (fun h133 => False.elim (by omega))⟩
      refine And.intro ⟨(by omega), (zRb rfl)⟩ ⟨(fun h178 => False.elim (by omega)), fun h178 => ?_⟩
      refine And.intro ⟨(by omega), (zRb rfl)⟩ ⟨(fun h184 => False.elim (by omega)), fun h184 => ?_⟩
      refine And.intro ⟨(by omega), (zRb rfl)⟩ ⟨(fun h190 => False.elim (by omega)), fun h190 => ?_⟩
      refine And.intro ⟨(by omega), (zRb rfl)⟩ ⟨(fun h196 => False.elim (by omega)), fun h196 => ?_⟩
      refine And.intro ⟨(by omega), (zRb rfl)⟩ ⟨fun h202 => ?_, fun h202 => ?_⟩
      · refine And.intro (zDX hD 0 rfl) (zrd (v := p) (zxs (by decide) h2) ?_)
        refine And.intro (zDX hD 0 rfl) ⟨_, (zWi (by omega)), ?_⟩
        refine And.intro (zDX hD 0 rfl) ⟨_, sn_S_exE.up (by decide), ?_⟩
        refine ⟨_, n, e, (exI (p + 1)), 405, rfl, hS, hR, hD, (by first | exact hk | (clear hQ; grind [xu])), (by first | exact (zEt_fr hE (fun c j h => (zxcj (by omega) (zxcj (by omega) rfl)))) | (clear hQ; grind [xu])), (zEr_mk (a := p + 1) (b := -1) (by first | exact zxe | exact h2 | exact h3 | (refine zxs (by omega) ?_; first | exact zxe | exact h2 | exact h3 | (refine zxs (by omega) ?_; first | exact zxe | exact h2 | exact h3 | (refine zxs (by omega) ?_; first | exact zxe | exact h2 | exact h3)))) (by first | exact zxe | exact h2 | exact h3 | (refine zxs (by omega) ?_; first | exact zxe | exact h2 | exact h3 | (refine zxs (by omega) ?_; first | exact zxe | exact h2 | exact h3 | (refine zxs (by omega) ?_; first | exact zxe | exact h2 | exact h3)))) (Or.inl ⟨rfl, (show _ = ((p + 1 : Nat) : Int) from by omega), rfl⟩)), (by omega), (by repeat (first | exact hWF | exact hWI (eTx_lt hE2 (by omega)) | refine exT_W hE2 (by decide) ?_ | refine exG_W hE2 ?_ | refine exH_W hE2 ?_ | refine exFd_W hE2 ?_)), ?_⟩
        intro I223o p223hR p223bfr
        refine And.intro (zDX hD 0 rfl) ⟨_, sn_S_tkE.up (by decide), ?_⟩
        refine ⟨_, n, e, (59 : Int), (exG e (exI (p + 1))), 405, rfl, hS, hR, hD, (by first | exact hk | (clear hQ; grind [xu])), (by first | exact (zEt_fr hE (fun c j h => ((p223bfr c j (by omega) (by omega)).trans (zxcj (by omega) (zxcj (by omega) rfl))))) | (clear hQ; grind [xu])), (by first | exact p98hR | exact p169hR | exact p223hR | exact (zEr_mk (a := p + 1) (b := -1) (by first | exact zxe | exact h2 | exact h3 | (refine zxs (by omega) ?_; first | exact zxe | exact h2 | exact h3 | (refine zxs (by omega) ?_; first | exact zxe | exact h2 | exact h3 | (refine zxs (by omega) ?_; first | exact zxe | exact h2 | exact h3)))) (by first | exact zxe | exact h2 | exact h3 | (refine zxs (by omega) ?_; first | exact zxe | exact h2 | exact h3 | (refine zxs (by omega) ?_; first | exact zxe | exact h2 | exact h3 | (refine zxs (by omega) ?_; first | exact zxe | exact h2 | exact h3)))) (Or.inl ⟨rfl, (show _ = ((p + 1 : Nat) : Int) from by omega), rfl⟩)) | exact (zEr_mk (a := p) (b := p) (by first | exact zxe | exact h2 | exact h3 | (refine zxs (by omega) ?_; first | exact zxe | exact h2 | exact h3 | (refine zxs (by omega) ?_; first | exact zxe | exact h2 | exact h3 | (refine zxs (by omega) ?_; first | exact zxe | exact h2 | exact h3)))) (by first | exact zxe | exact h2 | exact h3 | (refine zxs (by omega) ?_; first | exact zxe | exact h2 | exact h3 | (refine zxs (by omega) ?_; first | exact zxe | exact h2 | exact h3 | (refine zxs (by omega) ?_; first | exact zxe | exact h2 | exact h3)))) (Or.inr ⟨rfl, rfl, by omega, by omega⟩))), (by omega), (by repeat (first | exact hWF | exact hWI (eTx_lt hE2 (by omega)) | refine exT_W hE2 (by decide) ?_ | refine exG_W hE2 ?_ | refine exH_W hE2 ?_ | refine exFd_W hE2 ?_)), (by omega), ?_⟩
        intro I240o p240hR p240bfr
        refine hQ _ ?_ (Eq.trans (b := ((m + 1) : Int)) ((p240bfr k 4 (by omega) (by omega)).trans ((p223bfr k 4 (by omega) (by omega)).trans (zxs (by decide) zxe))) (by omega)) (fun c j h0 h1 h2 => ((p240bfr c j h0 h1).trans ((p223bfr c j h0 h1).trans (zxcj h0 (zxcj h2 rfl)))))
        · first
          | (rw [stS_v (by omega)]; exact zEr_m p240hR (by decide))
          | (rw [stS_c (by omega)]; exact zEr_m p240hR (by decide))
          | (rw [stS_a (by omega)]; exact zEr_m p240hR (by decide))
          | (rw [stS_q (by omega)]; exact zEr_m p240hR (by decide))
          | (rw [stS_e (by omega)]; exact zEr_m p240hR (by decide))
          | (rw [stS_f (by omega) (by omega) (by omega) (by omega) (by omega)]; exact zEr_m p240hR (by decide))
      · refine And.intro ⟨(by omega), (zRb rfl)⟩ ⟨fun h208 => ?_, (fun h208 => False.elim (by omega))⟩
        have t208 : e p ≠ 33 ∧ e p ≠ 94 ∧ e p ≠ 43 ∧ e p ≠ 38 ∧ e p ≠ 124 ∧ e p ≠ 60 := (by omega)
        refine And.intro (zDX hD 0 rfl) (zrd (v := p) (zxs (by decide) h2) ?_)
        refine And.intro (zDX hD 0 rfl) (Exists.intro _ (And.intro (zinl_ok (zT8_2 28)) (And.intro rfl ?_)))
        refine And.intro (zDX hD 0 rfl) (zrd (v := (-1)) (zxs (by decide) h3) ?_)
        refine And.intro ⟨(zRb rfl), (zRb rfl)⟩ (zbf rfl ?_)
        refine And.intro (zDX hD 0 rfl) ⟨_, (zWi (by omega)), ?_⟩
        refine And.intro (zDX hD 0 rfl) ⟨_, sn_S_tkE.up (by decide), ?_⟩
        refine ⟨_, n, e, (59 : Int), (exF p), 405, rfl, hS, hR, hD, (by first | exact hk | (clear hQ; grind [xu])), (by first | exact (zEt_fr hE (fun c j h => (zxcj (by omega) (zxcj (by omega) rfl)))) | (clear hQ; grind [xu])), (by first | exact p98hR | exact p169hR | exact p223hR | exact (zEr_mk (a := p + 1) (b := -1) (by first | exact zxe | exact h2 | exact h3 | (refine zxs (by omega) ?_; first | exact zxe | exact h2 | exact h3 | (refine zxs (by omega) ?_; first | exact zxe | exact h2 | exact h3 | (refine zxs (by omega) ?_; first | exact zxe | exact h2 | exact h3)))) (by first | exact zxe | exact h2 | exact h3 | (refine zxs (by omega) ?_; first | exact zxe | exact h2 | exact h3 | (refine zxs (by omega) ?_; first | exact zxe | exact h2 | exact h3 | (refine zxs (by omega) ?_; first | exact zxe | exact h2 | exact h3)))) (Or.inl ⟨rfl, (show _ = ((p + 1 : Nat) : Int) from by omega), rfl⟩)) | exact (zEr_mk (a := p) (b := p) (by first | exact zxe | exact h2 | exact h3 | (refine zxs (by omega) ?_; first | exact zxe | exact h2 | exact h3 | (refine zxs (by omega) ?_; first | exact zxe | exact h2 | exact h3 | (refine zxs (by omega) ?_; first | exact zxe | exact h2 | exact h3)))) (by first | exact zxe | exact h2 | exact h3 | (refine zxs (by omega) ?_; first | exact zxe | exact h2 | exact h3 | (refine zxs (by omega) ?_; first | exact zxe | exact h2 | exact h3 | (refine zxs (by omega) ?_; first | exact zxe | exact h2 | exact h3)))) (Or.inr ⟨rfl, rfl, by omega, by omega⟩))), (by omega), (by repeat (first | exact hWF | exact hWI (eTx_lt hE2 (by omega)) | refine exT_W hE2 (by decide) ?_ | refine exG_W hE2 ?_ | refine exH_W hE2 ?_ | refine exFd_W hE2 ?_)), (by omega), ?_⟩
        intro I240o p240hR p240bfr
        refine hQ _ ?_ (Eq.trans (b := ((m + 1) : Int)) ((p240bfr k 4 (by omega) (by omega)).trans (zxs (by decide) zxe)) (by omega)) (fun c j h0 h1 h2 => ((p240bfr c j h0 h1).trans (zxcj h1 (zxcj h2 rfl))))
        · first
          | (rw [stS_v (by omega)]; exact zEr_m p240hR (by decide))
          | (rw [stS_c (by omega)]; exact zEr_m p240hR (by decide))
          | (rw [stS_a (by omega)]; exact zEr_m p240hR (by decide))
          | (rw [stS_q (by omega)]; exact zEr_m p240hR (by decide))
          | (rw [stS_e (by omega)]; exact zEr_m p240hR (by decide))
          | (rw [stS_f (by omega) (by omega) (by omega) (by omega) (by omega)]; exact zEr_m p240hR (by decide))
    · refine And.intro (Or.inr rfl) ?_
      refine And.intro (zRb rfl) (zbf rfl ?_)
      refine And.intro (zDX hD 0 rfl) (zrd (v := p) (zxs (by decide) h2) ?_)
      refine And.intro (zDX hD 0 rfl) ⟨_, (zWi (by omega)), ?_⟩
      refine And.intro (zDX hD 0 rfl) ⟨_, sn_S_tkE.up (by decide), ?_⟩
      refine ⟨_, n, e, (61 : Int), (exI (p + 1)), 405, rfl, hS, hR, hD, (by first | exact hk | (clear hQ; grind [xu])), (by first | exact (zEt_fr hE (fun c j h => (zxcj (by omega) (zxcj (by omega) rfl)))) | (clear hQ; grind [xu])), (zEr_mk (a := p + 1) (b := -1) (by first | exact zxe | exact h2 | exact h3 | (refine zxs (by omega) ?_; first | exact zxe | exact h2 | exact h3 | (refine zxs (by omega) ?_; first | exact zxe | exact h2 | exact h3 | (refine zxs (by omega) ?_; first | exact zxe | exact h2 | exact h3)))) (by first | exact zxe | exact h2 | exact h3 | (refine zxs (by omega) ?_; first | exact zxe | exact h2 | exact h3 | (refine zxs (by omega) ?_; first | exact zxe | exact h2 | exact h3 | (refine zxs (by omega) ?_; first | exact zxe | exact h2 | exact h3)))) (Or.inl ⟨rfl, (show _ = ((p + 1 : Nat) : Int) from by omega), rfl⟩)), (by omega), (by repeat (first | exact hWF | exact hWI (eTx_lt hE2 (by omega)) | refine exT_W hE2 (by decide) ?_ | refine exG_W hE2 ?_ | refine exH_W hE2 ?_ | refine exFd_W hE2 ?_)), (by omega), ?_⟩
      intro I93o p93hR p93bfr
      refine And.intro (zDX hD 0 rfl) ⟨_, sn_S_exE.up (by decide), ?_⟩
      refine ⟨_, n, e, (exT e 61 (exI (p + 1))), 405, rfl, hS, hR, hD, (by first | exact hk | (clear hQ; grind [xu])), (by first | exact (zEt_fr hE (fun c j h => ((p93bfr c j (by omega) (by omega)).trans (zxcj (by omega) (zxcj (by omega) rfl))))) | (clear hQ; grind [xu])), p93hR, (by omega), (by repeat (first | exact hWF | exact hWI (eTx_lt hE2 (by omega)) | refine exT_W hE2 (by decide) ?_ | refine exG_W hE2 ?_ | refine exH_W hE2 ?_ | refine exFd_W hE2 ?_)), ?_⟩
      intro I98o p98hR p98bfr
      refine And.intro (zDX hD 0 rfl) ⟨_, sn_S_tkE.up (by decide), ?_⟩
      refine ⟨_, n, e, (59 : Int), (exG e (exT e 61 (exI (p + 1)))), 405, rfl, hS, hR, hD, (by first | exact hk | (clear hQ; grind [xu])), (by first | exact (zEt_fr hE (fun c j h => ((p98bfr c j (by omega) (by omega)).trans ((p93bfr c j (by omega) (by omega)).trans (zxcj (by omega) (zxcj (by omega) rfl)))))) | (clear hQ; grind [xu])), (by first | exact p98hR | exact p169hR | exact p223hR | exact (zEr_mk (a := p + 1) (b := -1) (by first | exact zxe | exact h2 | exact h3 | (refine zxs (by omega) ?_; first | exact zxe | exact h2 | exact h3 | (refine zxs (by omega) ?_; first | exact zxe | exact h2 | exact h3 | (refine zxs (by omega) ?_; first | exact zxe | exact h2 | exact h3)))) (by first | exact zxe | exact h2 | exact h3 | (refine zxs (by omega) ?_; first | exact zxe | exact h2 | exact h3 | (refine zxs (by omega) ?_; first | exact zxe | exact h2 | exact h3 | (refine zxs (by omega) ?_; first | exact zxe | exact h2 | exact h3)))) (Or.inl ⟨rfl, (show _ = ((p + 1 : Nat) : Int) from by omega), rfl⟩)) | exact (zEr_mk (a := p) (b := p) (by first | exact zxe | exact h2 | exact h3 | (refine zxs (by omega) ?_; first | exact zxe | exact h2 | exact h3 | (refine zxs (by omega) ?_; first | exact zxe | exact h2 | exact h3 | (refine zxs (by omega) ?_; first | exact zxe | exact h2 | exact h3)))) (by first | exact zxe | exact h2 | exact h3 | (refine zxs (by omega) ?_; first | exact zxe | exact h2 | exact h3 | (refine zxs (by omega) ?_; first | exact zxe | exact h2 | exact h3 | (refine zxs (by omega) ?_; first | exact zxe | exact h2 | exact h3)))) (Or.inr ⟨rfl, rfl, by omega, by omega⟩))), (by omega), (by repeat (first | exact hWF | exact hWI (eTx_lt hE2 (by omega)) | refine exT_W hE2 (by decide) ?_ | refine exG_W hE2 ?_ | refine exH_W hE2 ?_ | refine exFd_W hE2 ?_)), (by omega), ?_⟩
      intro I240o p240hR p240bfr
      refine hQ _ ?_ (Eq.trans (b := ((m + 1) : Int)) ((p240bfr k 4 (by omega) (by omega)).trans ((p98bfr k 4 (by omega) (by omega)).trans ((p93bfr k 4 (by omega) (by omega)).trans (zxs (by decide) zxe)))) (by omega)) (fun c j h0 h1 h2 => ((p240bfr c j h0 h1).trans ((p98bfr c j h0 h1).trans ((p93bfr c j h0 h1).trans (zxcj h0 (zxcj h2 rfl))))))
      · first
        | (rw [stS_v (by omega)]; exact zEr_m p240hR (by decide))
        | (rw [stS_c (by omega)]; exact zEr_m p240hR (by decide))
        | (rw [stS_a (by omega)]; exact zEr_m p240hR (by decide))
        | (rw [stS_q (by omega)]; exact zEr_m p240hR (by decide))
        | (rw [stS_e (by omega)]; exact zEr_m p240hR (by decide))
        | (rw [stS_f (by omega) (by omega) (by omega) (by omega) (by omega)]; exact zEr_m p240hR (by decide)))
