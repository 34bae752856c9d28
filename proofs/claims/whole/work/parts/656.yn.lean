/-! yn -/
def T_Y_dr0 : ZT := fun args I L R S Q => ∃ (a : Int) (b : Int), args = [zvr 165, zvi a, zvi b] ∧ (zSh S) ∧ (zRs R) ∧ (R 165 31 = none) ∧ Q (some (zvi (-1))) I L R S
theorem sn_Y_dr0 : ZSnd 4 21 14 T_Y_dr0 := ZSnd.of (zT21_14 3) (by
  rintro args I L R S Q hz ⟨a, b, rfl, hS, hR, hrc, hQ⟩
  refine And.intro rfl ?_
  refine And.intro (zA_165 hS) (zrdR (v := none) hrc ?_)
  refine hQ )
def T_Y_dr : ZT := fun args I L R S Q => ∃ (q : Nat) (w : List CuR) (a : Int) (b : Int), args = [zvr 165, zvi a, zvi b] ∧ (zSh S) ∧ (zRs R) ∧ (R 165 31 = some q) ∧ (zDy zT15 zF15 q R S) ∧ (zMh w I) ∧ (∀ p : Nat, p < cuHc w → I 211 p = cuOr w p) ∧ (cuHc w ≤ 20) ∧ (cuG w) ∧ (r32 a ∧ r32 b) ∧ ∀ (v : Int) (I' : ZI), (v = (if (0 ≤ a ∧ a ≤ 6) ∧ 0 ≤ b ∧ b < (dTx w a).length then wAt (dTx w a) b.toNat else -1)) → (∀ c j : Nat, ¬ (c = 165 ∧ j = 44) → ¬ (c = 165 ∧ j = 45) → ¬ (c = 165 ∧ j = 46) → I' c j = I c j) → Q (some (zvi (v))) I' L R S
theorem sn_Y_dr : ZSnd 4 21 14 T_Y_dr := ZSnd.of (zT21_14 3) (by
  rintro args I L R S Q hz ⟨q, w, a, b, rfl, hS, hR, hrc, hdq, hMh, hord, hc20, hG, hr, hQ⟩
  refine And.intro rfl ?_
  refine And.intro (zA_165 hS) (zrdR (v := some q) hrc ?_)
  refine And.intro (by omega) ⟨fun h8 => ?_, fun h8 => ?_⟩
  · refine hQ _ _ ?_ (fun c j h0 h1 h2 => rfl)
    · first
      | (rw [if_neg (fun h => by omega)])
      | (have z := p35hsy2.2.2
         by_cases q9 : 0 ≤ b ∧ b < (dTx w a).length
         · rw [if_pos q9] at z
           rw [if_pos ⟨by omega, q9⟩]
           omega
         · rw [if_neg q9] at z
           rw [if_neg (fun h => q9 h.2)]
           omega)
  · refine And.intro ⟨(by omega), (zRb rfl)⟩ ⟨fun h14 => ?_, fun h14 => ?_⟩
    · refine hQ _ _ ?_ (fun c j h0 h1 h2 => rfl)
      · first
        | (rw [if_neg (fun h => by omega)])
        | (have z := p35hsy2.2.2
           by_cases q9 : 0 ≤ b ∧ b < (dTx w a).length
           · rw [if_pos q9] at z
             rw [if_pos ⟨by omega, q9⟩]
             omega
           · rw [if_neg q9] at z
             rw [if_neg (fun h => q9 h.2)]
             omega)
    · refine And.intro (by omega) ⟨fun h18 => ?_, fun h18 => ?_⟩
      · refine And.intro (zA_165 hS) ⟨_, (zWi (by omega)), ?_⟩
        refine And.intro (zA_165 hS) ⟨_, (zWi (zRb rfl)), ?_⟩
        refine And.intro (zA_165 hS) ⟨_, sn_Y_sdr.up (by decide), ?_⟩
        refine ⟨b, w, a, rfl, hS, hR, (zxs (by decide) zxe), zxe, (by omega), (by omega), (zMh_fr hMh (fun c j h => zxcj (by omega) (zxcj (by omega) rfl))), (fun p hp => zxu (by decide) (zxu (by decide) (hord p hp))), (by omega), (by first | exact hG | (clear hQ; grind [xu])), ?_⟩
        intro I35o p35hsy2 p35bfr
        refine And.intro (zA_165 hS) (fun v39 e39 r39 => ?_)
        refine hQ _ _ ?_ (fun c j h0 h1 h2 => ((p35bfr c j h1 h2).trans (zxcj h2 (zxcj h0 rfl))))
        · first
          | (rw [if_neg (fun h => by omega)])
          | (have z := p35hsy2.2.2
             by_cases q9 : 0 ≤ b ∧ b < (dTx w a).length
             · rw [if_pos q9] at z
               rw [if_pos ⟨by omega, q9⟩]
               omega
             · rw [if_neg q9] at z
               rw [if_neg (fun h => q9 h.2)]
               omega)
      · refine hQ _ _ ?_ (fun c j h0 h1 h2 => rfl)
        · first
          | (rw [if_neg (fun h => by omega)])
          | (have z := p35hsy2.2.2
             by_cases q9 : 0 ≤ b ∧ b < (dTx w a).length
             · rw [if_pos q9] at z
               rw [if_pos ⟨by omega, q9⟩]
               omega
             · rw [if_neg q9] at z
               rw [if_neg (fun h => q9 h.2)]
               omega))
