/-! tzj -/
def T_E_sfd : ZT := fun args I L R S Q => ∃ (k : Nat) (n : Nat) (e : Nat → Int) (p : Nat) (E : EvE), args = [zvr 138, zvi p] ∧ (zSh S) ∧ (zRs R) ∧ (zDy zT8 zF8 k R S) ∧ (k = 130 ∨ k = 134) ∧ (zEt k n e I) ∧ (R 138 0 = some k) ∧ (zEv E I L) ∧ (p < n) ∧ ((exAt e 3 (p + 1)).1 = 1) ∧ ((exEx e 3 ((exAt e 3 (p + 1)).2.1 + 2 + 1)).1 = 1) ∧ ((exAt e 3 (p + 1)).2.1 + 3 ≤ n) ∧ (48 ≤ e ((exAt e 3 (p + 1)).2.1 + 1) ∧ e ((exAt e 3 (p + 1)).2.1 + 1) ≤ 53) ∧ ((exEx e 3 ((exAt e 3 (p + 1)).2.1 + 2 + 1)).2.1 ≤ n) ∧ ∀ (v : Int) (I' : ZI) (L' : ZI), (v = ((exEx e 3 ((exAt e 3 (p + 1)).2.1 + 2 + 1)).2.1 : Nat) + 1) → (((apF E (exAt e 3 (p + 1)).2.2 (exEx e 3 ((exAt e 3 (p + 1)).2.1 + 2 + 1)).2.2 E.2.1) = 0 ∧ zEv (evSf E (6 * (evV E (exAt e 3 (p + 1)).2.2) + e ((exAt e 3 (p + 1)).2.1 + 1) - 48).toNat (evV E (exEx e 3 ((exAt e 3 (p + 1)).2.1 + 2 + 1)).2.2)) I' L' ∧ ∀ j : Nat, 13 ≤ j → j ≤ 15 → I' 138 j = I 138 j) ∨ (¬ (apF E (exAt e 3 (p + 1)).2.2 (exEx e 3 ((exAt e 3 (p + 1)).2.1 + 2 + 1)).2.2 E.2.1) = 0 ∧ zEv E I' L' ∧ I' 138 13 = ((apF E (exAt e 3 (p + 1)).2.2 (exEx e 3 ((exAt e 3 (p + 1)).2.1 + 2 + 1)).2.2 E.2.1) : Nat) ∧ I' 138 14 = p ∧ I' 138 15 = 0)) → (∀ c j : Nat, ¬ (c = 138 ∧ j = 13) → ¬ (c = 138 ∧ j = 14) → ¬ (c = 138 ∧ j = 15) → ¬ (c = 138 ∧ j = 16) → ¬ (c = 138 ∧ j = 17) → I' c j = I c j) → (∀ c j : Nat, ¬ c = 140 → L' c j = L c j) → Q (some (zvi (v))) I' L' R S
theorem sn_E_sfd : ZSnd 28 4 23 T_E_sfd := ZSnd.of (zT4_23 27) (by
  rintro args I L R S Q hz ⟨k, n, e, p, E, rfl, hS, hR, hD, hk, hE, hsc, hV, hp, hg, hg2, hap, hdg, hbp, hQ⟩
  have hk130 : 130 ≤ k := by omega
  have hk134 : k ≤ 134 := by omega
  obtain ⟨hE1, hE2, hE3⟩ := id hE
  have hn4 := hE2.1
  obtain ⟨hV1, ⟨hV2, hV2b⟩, hV3, ⟨hV4, hV4b⟩, hV5⟩ := id hV
  have h9 := apF_9 (E := E) (A := (exAt e 3 (p + 1)).2.2) (B := (exEx e 3 ((exAt e 3 (p + 1)).2.1 + 2 + 1)).2.2) (m := E.2.1)
  refine And.intro rfl ?_
  refine And.intro (zA_138 hS) ⟨_, (zWi (by omega)), ?_⟩
  refine And.intro (zA_138 hS) ⟨_, (zWi (zRb rfl)), ?_⟩
  refine And.intro (zA_138 hS) ⟨_, sn_E_at3.up (by decide), ?_⟩
  refine ⟨k, n, e, (p + 1), 0, E, rfl, hS, hR, hD, (by first | exact hk | (clear hQ; grind [xu])), (zEt_fr hE (fun c j h => (zxcj (by omega) (zxcj (by omega) rfl)))), hsc, rfl, rfl, (zEv_fr hV (fun c j h => (zxcj (by omega) (zxcj (by omega) rfl))) (fun c j h => rfl)), (by omega), hg, ?_⟩
  intro v15o pz15o I15o p15hO p15bhv2 p15bbh16 p15bbbh17 p15bbbbfr
  refine And.intro (zA_138 hS) ⟨_, sn_E_fi.up (by decide), ?_⟩
  refine ⟨k, n, e, ((exAt e 3 (p + 1)).2.1), (pz15o : Int), (v15o : Int), E.2.1, rfl, hS, hR, hD, (by first | exact hk | (clear hQ; grind [xu])), (zEt_fr hE (fun c j h => ((p15bbbbfr c j (by omega) (by omega)).trans (zxcj (by omega) (zxcj (by omega) rfl))))), hsc, p15bbh16, p15bbbh17, ((p15bbbbfr 138 3 (by omega) (by omega)).trans hV2), (by omega), (by omega), hdg, p15bhv2, ?_⟩
  intro v18o pz18o I18o p18h16 p18bh17 p18bbhd p18bbbfr
  refine And.intro (zA_138 hS) (Exists.intro _ (And.intro (zinl_ok (zT4_29 26)) (And.intro rfl ?_)))
  refine And.intro (zA_138 hS) (zrd (v := ((((exAt e 3 (p + 1)).2.1 : Nat)) + 2)) p18h16 ?_)
  refine And.intro (zA_138 hS) ⟨_, (zWi (by omega)), ?_⟩
  refine And.intro (zA_138 hS) ⟨_, sn_E_ex3.up (by decide), ?_⟩
  refine ⟨k, n, e, ((exAt e 3 (p + 1)).2.1 + 2 + 1), (pz18o : Int), E, rfl, hS, hR, hD, (by first | exact hk | (clear hQ; grind [xu])), (zEt_fr hE (fun c j h => (zxcj (by omega) ((p18bbbfr c j (by omega) (by omega)).trans ((p15bbbbfr c j (by omega) (by omega)).trans (zxcj (by omega) (zxcj (by omega) rfl))))))), hsc, rfl, p18bh17, (zEv_fr hV (fun c j h => (zxcj (by omega) ((p18bbbfr c j (by omega) (by omega)).trans ((p15bbbbfr c j (by omega) (by omega)).trans (zxcj (by omega) (zxcj (by omega) rfl)))))) (fun c j h => rfl)), (by omega), hg2, ?_⟩
  intro v12_23o pz12_23o I12_23o p12_23hO p12_23bhv2 p12_23bbh16 p12_23bbbh17 p12_23bbbbfr
  have g12_23 : pz12_23o = ((apF E (exAt e 3 (p + 1)).2.2 (exEx e 3 ((exAt e 3 (p + 1)).2.1 + 2 + 1)).2.2 E.2.1) : Nat) := (apF_of2 (p15hO.2.1 rfl) p15hO.2.2 p18bbhd p12_23hO).1
  refine And.intro (zA_138 hS) (zrd (v := pz12_23o) p12_23bbbh17 ?_)
  refine And.intro (by omega) ⟨fun h31 => ?_, fun h31 => ?_⟩
  · have t31 : pz12_23o = ((apF E (exAt e 3 (p + 1)).2.2 (exEx e 3 ((exAt e 3 (p + 1)).2.1 + 2 + 1)).2.2 E.2.1) : Nat) := (apF_of2 (p15hO.2.1 rfl) p15hO.2.2 p18bbhd p12_23hO).1
    have t31b : (v15o = evV E (exAt e 3 (p + 1)).2.2 ∧ v18o = 6 * v15o + e ((exAt e 3 (p + 1)).2.1 + 1) - 48 ∧ v12_23o = evV E (exEx e 3 ((exAt e 3 (p + 1)).2.1 + 2 + 1)).2.2) ∧ 0 ≤ v15o ∧ v15o < (E.2.1 : Int) := ((apF_of2 (p15hO.2.1 rfl) p15hO.2.2 p18bbhd p12_23hO).2 (by omega))
    refine And.intro ⟨(by omega), (zRb rfl)⟩ ⟨fun h49 => ?_, fun h49 => ?_⟩
    · exact False.elim (by omega)
    · refine And.intro (zA_138 hS) (zrdR (v := some 140) (zR_138_2 hR) ?_)
      refine And.intro ⟨(zx0 rfl), (zP_140 hS (by omega) (by omega))⟩ ⟨_, zW6i (by omega), ?_⟩
      refine And.intro (zA_138 hS) (zrd (v := (((exEx e 3 (((((exAt e 3 (p + 1)).2.1 : Nat)) + 2) + 1)).2.1 : Nat))) p12_23bbh16 ?_)
      refine hQ _ _ _ (by clear hQ; grind [xu]) ?_ (fun c j h0 h1 h2 h3 h4 => ((p12_23bbbbfr c j h3 h4).trans (zxcj h3 ((p18bbbfr c j h3 h4).trans ((p15bbbbfr c j h3 h4).trans (zxcj h4 (zxcj h3 rfl))))))) (fun c j h0 => (zxu h0 rfl))
      · first
        | exact Or.inl ⟨by omega, zEv_f (zEv_fr hV (fun c j h => ((p12_23bbbbfr c j (by omega) (by omega)).trans (zxcj (by omega) ((p18bbbfr c j (by omega) (by omega)).trans ((p15bbbbfr c j (by omega) (by omega)).trans (zxcj (by omega) (zxcj (by omega) rfl))))))) (fun c j h => rfl)) (fun c j h => rfl) (fun c j h => zxcj (by omega) rfl) ((zxe' (by omega)).trans t31b.1.2.2), fun j h1 h2 => ((p12_23bbbbfr _ _ (by omega) (by omega)).trans (zxcj (by omega) ((p18bbbfr _ _ (by omega) (by omega)).trans ((p15bbbbfr _ _ (by omega) (by omega)).trans (zxcj (by omega) (zxcj (by omega) rfl))))))⟩
        | exact Or.inr ⟨by omega, zEv_fr hV (fun c j h => ((p12_23bbbbfr c j (by omega) (by omega)).trans (zxcj (by omega) ((p18bbbfr c j (by omega) (by omega)).trans ((p15bbbbfr c j (by omega) (by omega)).trans (zxcj (by omega) (zxcj (by omega) rfl))))))) (fun c j h => rfl), NOREAD.trans (by omega), NOREAD, NOREAD⟩
  · have t31 : pz12_23o = ((apF E (exAt e 3 (p + 1)).2.2 (exEx e 3 ((exAt e 3 (p + 1)).2.1 + 2 + 1)).2.2 E.2.1) : Nat) := (apF_of2 (p15hO.2.1 rfl) p15hO.2.2 p18bbhd p12_23hO).1
    refine And.intro (zA_138 hS) (zrd (v := pz12_23o) p12_23bbbh17 ?_)
    refine And.intro (zA_138 hS) (Exists.intro _ (And.intro (zinl_ok (zT4_12 26)) (And.intro rfl ?_)))
    refine And.intro (zA_138 hS) ⟨_, (zWi (by omega)), ?_⟩
    refine And.intro (zA_138 hS) ⟨_, (zWi (by omega)), ?_⟩
    refine And.intro (zA_138 hS) ⟨_, (zWi (zRb rfl)), ?_⟩
    refine And.intro (zA_138 hS) (zrd (v := (((exEx e 3 (((((exAt e 3 (p + 1)).2.1 : Nat)) + 2) + 1)).2.1 : Nat))) p12_23bbh16 ?_)
    refine hQ _ _ _ (by clear hQ; grind [xu]) ?_ (fun c j h0 h1 h2 h3 h4 => (zxcj h2 (zxcj h1 (zxcj h0 ((p12_23bbbbfr c j h3 h4).trans (zxcj h3 ((p18bbbfr c j h3 h4).trans ((p15bbbbfr c j h3 h4).trans (zxcj h4 (zxcj h3 rfl)))))))))) (fun c j h0 => rfl)
    · first
      | exact Or.inl ⟨by omega, zEv_f (zEv_fr hV (fun c j h => (zxcj (by omega) (zxcj (by omega) (zxcj (by omega) ((p12_23bbbbfr c j (by omega) (by omega)).trans (zxcj (by omega) ((p18bbbfr c j (by omega) (by omega)).trans ((p15bbbbfr c j (by omega) (by omega)).trans (zxcj (by omega) (zxcj (by omega) rfl)))))))))) (fun c j h => rfl)) (fun c j h => rfl) (fun c j h => zxcj (by omega) rfl) ((zxe' (by omega)).trans t31b.1.2.2), fun j h1 h2 => (zxcj (by omega) (zxcj (by omega) (zxcj (by omega) ((p12_23bbbbfr _ _ (by omega) (by omega)).trans (zxcj (by omega) ((p18bbbfr _ _ (by omega) (by omega)).trans ((p15bbbbfr _ _ (by omega) (by omega)).trans (zxcj (by omega) (zxcj (by omega) rfl)))))))))⟩
      | exact Or.inr ⟨by omega, zEv_fr hV (fun c j h => (zxcj (by omega) (zxcj (by omega) (zxcj (by omega) ((p12_23bbbbfr c j (by omega) (by omega)).trans (zxcj (by omega) ((p18bbbfr c j (by omega) (by omega)).trans ((p15bbbbfr c j (by omega) (by omega)).trans (zxcj (by omega) (zxcj (by omega) rfl)))))))))) (fun c j h => rfl), (show _ = (pz12_23o : Int) from rfl).trans (by omega), (show _ = (p : Int) from rfl), (show _ = (0 : Int) from rfl)⟩)
