/-! tzp -/
def T_E_pmN : ZT := fun args I L R S Q => ∃ (k : Nat) (n : Nat) (e : Nat → Int) (p : Nat) (E : EvE), args = [zvr 138, zvi p] ∧ (zSh S) ∧ (zRs R) ∧ (zDy zT8 zF8 k R S) ∧ (k = 130 ∨ k = 134) ∧ (zEt k n e I) ∧ (R 138 0 = some k) ∧ (zEv E I L) ∧ (p + 1 ≤ n) ∧ ((exEx e 3 (p + 1)).1 = 1) ∧ ((exEx e 3 (p + 1)).2.1 ≤ n) ∧ (e p = 60) ∧ (evV E (exEx e 3 (p + 1)).2.2 < 0 ∨ 20 < evV E (exEx e 3 (p + 1)).2.2) ∧ (I 138 12 = 0) ∧ (I 138 13 = 0) ∧ ∀ (v : Int) (I' : ZI), (v = ((exEx e 3 (p + 1)).2.1 : Nat) + 1) → ((evF E (exEx e 3 (p + 1)).2.2 = 0 ∧ zEv E I' L ∧ I' 138 13 = 3 ∧ I' 138 14 = p ∧ I' 138 15 = 0) ∨ (¬ evF E (exEx e 3 (p + 1)).2.2 = 0 ∧ zEv E I' L ∧ I' 138 13 = (evF E (exEx e 3 (p + 1)).2.2 : Nat) ∧ I' 138 14 = p ∧ I' 138 15 = 0)) → (∀ c j : Nat, ¬ (c = 138 ∧ j = 13) → ¬ (c = 138 ∧ j = 14) → ¬ (c = 138 ∧ j = 15) → ¬ (c = 138 ∧ j = 16) → ¬ (c = 138 ∧ j = 17) → I' c j = I c j) → Q (some (zvi (v))) I' L R S
theorem sn_E_pmN : ZSnd 28 4 37 T_E_pmN := ZSnd.of (zT4_37 27) (by
  rintro args I L R S Q hz ⟨k, n, e, p, E, rfl, hS, hR, hD, hk, hE, hsc, hV, hp, hg, hbp, hvr, hn12, h12, h13, hQ⟩
  have hk130 : 130 ≤ k := by omega
  have hk134 : k ≤ 134 := by omega
  obtain ⟨hE1, hE2, hE3⟩ := id hE
  have hn4 := hE2.1
  have h9 := evF_9 (E := E) (l := (exEx e 3 (p + 1)).2.2)
  refine And.intro rfl ?_
  refine And.intro (zA_138 hS) (zrdR (v := some k) hsc ?_)
  refine And.intro (zDX hD 0 rfl) ⟨_, sn_S_let.up (by decide), ?_⟩
  refine ⟨k, n, e, (p : Int), p, rfl, hS, hR, hD, (by first | exact hk | (clear hQ; grind [xu])), (by first | exact (zEt_fr hE (fun c j h => rfl)) | (clear hQ; grind [xu])), (by omega), ?_⟩
  intro v5o p5hv p5bhv2
  refine Exists.intro _ (And.intro (zinl_ok (zT8_9 26)) (And.intro rfl ?_))
  refine And.intro ⟨(by omega), (zRb rfl)⟩ ⟨fun h3_10 => ?_, (fun h3_10 => False.elim (by omega))⟩
  refine And.intro (Or.inl rfl) ?_
  refine And.intro (zRb rfl) (zbt rfl ?_)
  refine And.intro (zA_138 hS) ⟨_, sn_E_rki.up (by decide), ?_⟩
  refine ⟨k, n, e, (p + 1), p, E, rfl, hS, hR, hD, (by first | exact hk | (clear hQ; grind [xu])), (by first | exact (zEt_fr hE (fun c j h => rfl)) | (clear hQ; grind [xu])), hsc, hV, (by omega), hg, (show r32 (p : Int) from ⟨by omega, by omega⟩), ?_⟩
  intro v29o I29o p29hr p29bhv64 p29bbh16 p29bbbfr
  refine And.intro (zA_138 hS) (Exists.intro _ (And.intro (zinl_ok (zT4_15 26)) (And.intro rfl ?_)))
  refine And.intro (zA_138 hS) (zrd (v := 0) ((p29bbbfr 138 12 (by omega) (by omega) (by omega) (by omega) (by omega)).trans h12) ?_)
  refine And.intro (zRb rfl) (zbf rfl ?_)
  refine And.intro (zA_138 hS) (fun v8_35 e8_35 r8_35 => ?_)
  refine And.intro r8_35 ⟨fun h11_35 => ?_, fun h11_35 => ?_⟩
  · refine And.intro (Or.inl rfl) ?_
    refine And.intro (zRb rfl) (zbt rfl ?_)
    refine And.intro (zA_138 hS) (zrd (v := (((exEx e 3 (p + 1)).2.1 : Nat))) p29bbh16 ?_)
    refine hQ _ _ (by clear hQ; grind [xu]) ?_ (fun c j h0 h1 h2 h3 h4 => ((p29bbbfr c j h0 h1 h2 h3 h4).trans rfl))
    · first
      | (rcases p29hr with w | w
         · exact Or.inl ⟨w.1, zEv_fr hV (fun c j h => ((p29bbbfr c j (by omega) (by omega) (by omega) (by omega) (by omega)).trans rfl)) (fun c j h => rfl), NOREAD, NOREAD, NOREAD⟩
         · exfalso; have w2 := w.2.1; omega)
      | (rcases p29hr with w | w
         · exfalso; have w2 := w.2.2 13 (by decide) (by decide); omega
         · exact Or.inr ⟨w.1, zEv_fr hV (fun c j h => ((p29bbbfr c j (by omega) (by omega) (by omega) (by omega) (by omega)).trans rfl)) (fun c j h => rfl), w.2.1, w.2.2.1, w.2.2.2⟩)
  · refine And.intro (Or.inr rfl) ?_
    refine And.intro (zRb rfl) (zbf rfl ?_)
    refine And.intro (zRb rfl) (zbt rfl ?_)
    refine And.intro ⟨(by omega), (zRb rfl)⟩ ⟨fun h62 => ?_, (fun h62 => False.elim (by omega))⟩
    refine And.intro ⟨(by omega), (zRb rfl)⟩ ⟨fun h77 => ?_, (fun h77 => False.elim (by omega))⟩
    refine And.intro ⟨(by omega), (zRb rfl)⟩ ⟨fun h95 => ?_, (fun h95 => False.elim (by omega))⟩
    refine And.intro (zA_138 hS) ⟨_, sn_E_mlN.up (by decide), ?_⟩
    refine ⟨(v29o : Int), (p : Int), rfl, hS, hR, p29bhv64, (show r32 (p : Int) from ⟨by omega, by omega⟩), (by rcases p29hr with w | w; (have w2 := w.2.1; omega); (exfalso; have w2 := w.2.1; omega)), ?_⟩
    intro I112o p112h13 p112bh14 p112bbh15 p112bbbfr
    refine And.intro (zA_138 hS) (zrd (v := (((exEx e 3 (p + 1)).2.1 : Nat))) ((p112bbbfr 138 16 (by omega) (by omega) (by omega)).trans p29bbh16) ?_)
    refine hQ _ _ (by clear hQ; grind [xu]) ?_ (fun c j h0 h1 h2 h3 h4 => ((p112bbbfr c j h0 h1 h2).trans ((p29bbbfr c j h0 h1 h2 h3 h4).trans rfl)))
    · first
      | (rcases p29hr with w | w
         · exact Or.inl ⟨w.1, zEv_fr hV (fun c j h => ((p112bbbfr c j (by omega) (by omega) (by omega)).trans ((p29bbbfr c j (by omega) (by omega) (by omega) (by omega) (by omega)).trans rfl))) (fun c j h => rfl), (show _ = (3 : Int) from p112h13), (show _ = (p : Int) from p112bh14), (show _ = (0 : Int) from p112bbh15)⟩
         · exfalso; have w2 := w.2.1; omega)
      | (rcases p29hr with w | w
         · exfalso; have w2 := w.2.2 13 (by decide) (by decide); omega
         · exact Or.inr ⟨w.1, zEv_fr hV (fun c j h => ((p112bbbfr c j (by omega) (by omega) (by omega)).trans ((p29bbbfr c j (by omega) (by omega) (by omega) (by omega) (by omega)).trans rfl))) (fun c j h => rfl), w.2.1, w.2.2.1, w.2.2.2⟩))
