/-! tzg -/
def T_E_rki : ZT := fun args I L R S Q => ∃ (k : Nat) (n : Nat) (e : Nat → Int) (p : Nat) (pl : Int) (E : EvE), args = [zvr 138, zvi p, zvi pl] ∧ (zSh S) ∧ (zRs R) ∧ (zDy zT8 zF8 k R S) ∧ (k = 130 ∨ k = 134) ∧ (zEt k n e I) ∧ (R 138 0 = some k) ∧ (zEv E I L) ∧ (p ≤ n) ∧ ((exEx e 3 p).1 = 1) ∧ (r32 pl) ∧ ∀ (v : Int) (I' : ZI), ((evF E (exEx e 3 p).2.2 = 0 ∧ v = evV E (exEx e 3 p).2.2 ∧ ∀ j : Nat, 13 ≤ j → j ≤ 15 → I' 138 j = I 138 j) ∨ (¬ evF E (exEx e 3 p).2.2 = 0 ∧ I' 138 13 = (evF E (exEx e 3 p).2.2 : Nat) ∧ I' 138 14 = pl ∧ I' 138 15 = 0)) → (r64 v) → (I' 138 16 = ((exEx e 3 p).2.1 : Nat)) → (∀ c j : Nat, ¬ (c = 138 ∧ j = 13) → ¬ (c = 138 ∧ j = 14) → ¬ (c = 138 ∧ j = 15) → ¬ (c = 138 ∧ j = 16) → ¬ (c = 138 ∧ j = 17) → I' c j = I c j) → Q (some (zvl (v))) I' L R S
theorem sn_E_rki : ZSnd 27 4 22 T_E_rki := ZSnd.of (zT4_22 26) (by
  rintro args I L R S Q hz ⟨k, n, e, p, pl, E, rfl, hS, hR, hD, hk, hE, hsc, hV, hp, hg, hpl, hQ⟩
  have hk130 : 130 ≤ k := by omega
  have hk134 : k ≤ 134 := by omega
  obtain ⟨hE1, hE2, hE3⟩ := id hE
  have hn4 := hE2.1
  have h9 := evF_9 (E := E) (l := (exEx e 3 p).2.2)
  obtain ⟨hpl1, hpl2⟩ : r32 pl := hpl
  refine And.intro rfl ?_
  refine And.intro (zA_138 hS) ⟨_, (zWi (by omega)), ?_⟩
  refine And.intro (zA_138 hS) ⟨_, (zWi (zRb rfl)), ?_⟩
  refine And.intro (zA_138 hS) ⟨_, sn_E_ex3.up (by decide), ?_⟩
  refine ⟨k, n, e, p, 0, E, rfl, hS, hR, hD, (by first | exact hk | (clear hQ; grind [xu])), (zEt_fr hE (fun c j h => (zxcj (by omega) (zxcj (by omega) rfl)))), hsc, rfl, rfl, (zEv_fr hV (fun c j h => (zxcj (by omega) (zxcj (by omega) rfl))) (fun c j h => rfl)), (by omega), hg, ?_⟩
  intro v12o pz12o I12o p12hO p12bhv2 p12bbh16 p12bbbh17 p12bbbbfr
  have g12 : pz12o = (evF E (exEx e 3 p).2.2 : Nat) := (p12hO.2.1 rfl)
  refine And.intro (zA_138 hS) (zrd (v := pz12o) p12bbbh17 ?_)
  refine And.intro (by omega) ⟨fun h20 => ?_, fun h20 => ?_⟩
  · refine hQ _ _ ?_ p12bhv2 (Eq.trans (b := ((((exEx e 3 p).2.1 : Nat)) : Int)) p12bbh16 (by omega)) (fun c j h0 h1 h2 h3 h4 => ((p12bbbbfr c j h3 h4).trans (zxcj h4 (zxcj h3 rfl))))
    · first
      | exact Or.inl ⟨by omega, p12hO.2.2 (by omega), fun j h1 h2 => ((p12bbbbfr _ _ (by omega) (by omega)).trans (zxcj (by omega) (zxcj (by omega) rfl)))⟩
      | exact Or.inr ⟨by omega, NOREAD.trans (by omega), NOREAD, NOREAD⟩
  · refine And.intro (zA_138 hS) (zrd (v := pz12o) p12bbbh17 ?_)
    refine And.intro (zA_138 hS) (Exists.intro _ (And.intro (zinl_ok (zT4_12 25)) (And.intro rfl ?_)))
    refine And.intro (zA_138 hS) ⟨_, (zWi (by omega)), ?_⟩
    refine And.intro (zA_138 hS) ⟨_, (zWi (by omega)), ?_⟩
    refine And.intro (zA_138 hS) ⟨_, (zWi (zRb rfl)), ?_⟩
    refine hQ _ _ ?_ p12bhv2 (Eq.trans (b := ((((exEx e 3 p).2.1 : Nat)) : Int)) p12bbh16 (by omega)) (fun c j h0 h1 h2 h3 h4 => (zxcj h2 (zxcj h1 (zxcj h0 ((p12bbbbfr c j h3 h4).trans (zxcj h4 (zxcj h3 rfl)))))))
    · first
      | exact Or.inl ⟨by omega, p12hO.2.2 (by omega), fun j h1 h2 => (zxcj (by omega) (zxcj (by omega) (zxcj (by omega) ((p12bbbbfr _ _ (by omega) (by omega)).trans (zxcj (by omega) (zxcj (by omega) rfl))))))⟩
      | exact Or.inr ⟨by omega, (show _ = (pz12o : Int) from rfl).trans (by omega), (show _ = (pl : Int) from rfl), (show _ = (0 : Int) from rfl)⟩)
