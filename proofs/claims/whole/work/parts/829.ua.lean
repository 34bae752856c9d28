/-! ua -/
def T_E_plo : ZT := fun args I L R S Q => ∃ (k : Nat) (n : Nat) (e : Nat → Int) (p : Nat) (s : WkS) (M : WkM), args = [zvr 138, zvi p] ∧ (zSh S) ∧ (zRs R) ∧ (zDy zT8 zF8 k R S) ∧ (k = 130 ∨ k = 134) ∧ (zEt k n e I) ∧ (R 138 0 = some k) ∧ (zWk n e M s I L) ∧ (wkGo s) ∧ (p < n) ∧ ((exEx e 3 (p + 1)).1 = 1) ∧ ((exEx e 3 (p + 1)).2.1 ≤ n) ∧ (e p = 33) ∧ ∀ (v : Int) (I' : ZI) (L' : ZI), (v = ((exEx e 3 (p + 1)).2.1 : Nat) + 1) → (zWk n e M (wk4 s p (exEx e 3 (p + 1)).2.2) I' L') → (∀ c j : Nat, ¬ (c = 138 ∧ j = 3) → ¬ (c = 138 ∧ j = 6) → ¬ (c = 138 ∧ j = 8) → ¬ (c = 138 ∧ j = 10) → ¬ (c = 138 ∧ j = 11) → ¬ (c = 138 ∧ j = 12) → ¬ (c = 138 ∧ j = 13) → ¬ (c = 138 ∧ j = 14) → ¬ (c = 138 ∧ j = 15) → ¬ (c = 138 ∧ j = 16) → ¬ (c = 138 ∧ j = 17) → ¬ c = 144 → I' c j = I c j) → (∀ c j : Nat, ¬ c = 143 → L' c j = L c j) → Q (some (zvi (v))) I' L' R S
theorem sn_E_plo : ZSnd 28 4 37 T_E_plo := ZSnd.of (zT4_37 27) (by
  rintro args I L R S Q hz ⟨k, n, e, p, s, M, rfl, hS, hR, hD, hk, hE, hsc, hW, hgo, hp, hg, hbp, hvr, hQ⟩
  have hk130 : 130 ≤ k := by omega
  have hk134 : k ≤ 134 := by omega
  obtain ⟨hE1, hE2, hE3⟩ := id hE
  have hn4 := hE2.1
  obtain ⟨⟨g11, g11b, g11c⟩, g12, g13, ⟨g3, g3b⟩, ⟨g6, g6b⟩, ⟨g8, g8b⟩, g10, g10b⟩ := zWk_n hW hgo
  have h9 := evF_9 (E := s.1.1) (l := (exEx e 3 (p + 1)).2.2)
  refine And.intro rfl ?_
  refine And.intro (zA_138 hS) (zrdR (v := some k) hsc ?_)
  refine And.intro (zDX hD 0 rfl) ⟨_, sn_S_let.up (by decide), ?_⟩
  refine ⟨k, n, e, (p : Int), p, rfl, hS, hR, hD, (by first | exact hk | (clear hQ; grind [xu])), (by first | exact (zEt_fr hE (fun c j h => rfl)) | (clear hQ; grind [xu])), (by omega), ?_⟩
  intro v5o p5hv p5bhv2
  refine Exists.intro _ (And.intro (zinl_ok (zT8_9 26)) (And.intro rfl ?_))
  refine And.intro ⟨(by omega), (zRb rfl)⟩ ⟨fun h3_10 => ?_, (fun h3_10 => False.elim (by omega))⟩
  refine And.intro (Or.inl rfl) ?_
  refine And.intro (zRb rfl) (zbt rfl ?_)
  refine And.intro (zA_138 hS) ⟨_, sn_E_rki.up (by decide), ?_⟩
  refine ⟨k, n, e, (p + 1), p, s.1.1, rfl, hS, hR, hD, (by first | exact hk | (clear hQ; grind [xu])), (by first | exact (zEt_fr hE (fun c j h => rfl)) | (clear hQ; grind [xu])), hsc, hW.1, (by omega), hg, (show r32 (p : Int) from ⟨by omega, by omega⟩), ?_⟩
  intro v29o I29o p29hr p29bhv64 p29bbh16 p29bbbfr
  refine And.intro (zA_138 hS) (Exists.intro _ (And.intro (zinl_ok (zT4_15 26)) (And.intro rfl ?_)))
  refine And.intro (zA_138 hS) (zrd (v := 0) ((p29bbbfr 138 12 (by omega) (by omega) (by omega) (by omega) (by omega)).trans g12) ?_)
  refine And.intro (zRb rfl) (zbf rfl ?_)
  refine And.intro (zA_138 hS) (fun v8_35 e8_35 r8_35 => ?_)
  refine And.intro r8_35 ⟨fun h11_35 => ?_, fun h11_35 => ?_⟩
  · refine And.intro (Or.inl rfl) ?_
    refine And.intro (zRb rfl) (zbt rfl ?_)
    refine And.intro (zA_138 hS) (zrd (v := (((exEx e 3 (p + 1)).2.1 : Nat))) p29bbh16 ?_)
    refine hQ _ _ _ (by clear hQ; grind [xu]) ?_ (fun c j h0 h1 h2 h3 h4 h5 h6 h7 h8 h9 h10 h11 => ((p29bbbfr c j h6 h7 h8 h9 h10).trans rfl)) (fun c j h0 => rfl)
    · rcases p29hr with w | w
      · exfalso; have w2 := w.2.2 13 (by decide) (by decide); omega
      · exact zWk_x (zWk_F hW (zEv_fr hW.1 (fun c j h => ((p29bbbfr c j (by omega) (by omega) (by omega) (by omega) (by omega)).trans rfl)) (fun c j h => rfl)) (fun c j h => ((p29bbbfr c j (by omega) (by omega) (by omega) (by omega) (by omega)).trans rfl)) (fun j => rfl) w.2.1 w.2.2.1 w.2.2.2) (if_neg w.1).symm
  · have t11_35 : True := True.intro
    refine And.intro (Or.inr rfl) ?_
    refine And.intro (zRb rfl) (zbf rfl ?_)
    refine And.intro (zRb rfl) (zbt rfl ?_)
    refine And.intro ⟨(by omega), (zRb rfl)⟩ ⟨(fun h62 => False.elim (by omega)), fun h62 => ?_⟩
    refine And.intro (zA_138 hS) (Exists.intro _ (And.intro (zinl_ok (zT4_19 26)) (And.intro rfl ?_)))
    refine And.intro (zA_138 hS) (zrd (v := (s.1.2.1.1)) ((p29bbbfr 138 8 (by omega) (by omega) (by omega) (by omega) (by omega)).trans g8) ?_)
    refine And.intro ⟨(by omega), (zRb rfl)⟩ ⟨fun h6_68 => ?_, fun h6_68 => ?_⟩
    · have t6_68 : True := True.intro
      refine And.intro (zA_138 hS) (zrd (v := (((exEx e 3 (p + 1)).2.1 : Nat))) p29bbh16 ?_)
      refine hQ _ _ _ (by clear hQ; grind [xu]) ?_ (fun c j h0 h1 h2 h3 h4 h5 h6 h7 h8 h9 h10 h11 => ((p29bbbfr c j h6 h7 h8 h9 h10).trans rfl)) (fun c j h0 => rfl)
      · rcases p29hr with w | w
        · have hW1 : zWk n e M s I29o L := zWk_E (E := s.1.1) hW (zEv_fr hW.1 (fun c j h => p29bbbfr c j (by omega) (by omega) (by omega) (by omega) (by omega)) (fun c j h => rfl)) (fun c j h => by
            by_cases w2 : c = 138 ∧ 13 ≤ j
            · rw [w2.1]; exact w.2.2 j w2.2 (by omega)
            · exact p29bbbfr c j (by omega) (by omega) (by omega) (by omega) (by omega)) (fun j => rfl)
          have z8 := hW1.2.1.1.1
          exact zWk_x hW1 ((if_neg (show ¬ s.1.2.1.1 < 40 by omega)).symm.trans (if_pos w.1).symm)
        · exfalso; have w2 := w.2.1; omega
    · refine And.intro (zA_138 hS) (zrdR (v := some 143) (zR_138_7 hR) ?_)
      refine And.intro (zA_138 hS) (zrd (v := (s.1.2.1.1)) ((p29bbbfr 138 8 (by omega) (by omega) (by omega) (by omega) (by omega)).trans g8) ?_)
      refine And.intro ⟨(zx0 rfl), (zP_143 hS (by omega) (by omega))⟩ ⟨_, zW6i (by omega), ?_⟩
      refine And.intro (zA_138 hS) (zrd (v := (s.1.2.1.1)) ((p29bbbfr 138 8 (by omega) (by omega) (by omega) (by omega) (by omega)).trans g8) ?_)
      refine And.intro (zA_138 hS) ⟨_, (zWi (by omega)), ?_⟩
      refine And.intro (zA_138 hS) (zrd (v := (((exEx e 3 (p + 1)).2.1 : Nat))) p29bbh16 ?_)
      refine hQ _ _ _ (by clear hQ; grind [xu]) ?_ (fun c j h0 h1 h2 h3 h4 h5 h6 h7 h8 h9 h10 h11 => (zxcj h2 ((p29bbbfr c j h6 h7 h8 h9 h10).trans rfl))) (fun c j h0 => (zxu h0 rfl))
      · rcases p29hr with w | w
        · have hW1 : zWk n e M s I29o L := zWk_E (E := s.1.1) hW (zEv_fr hW.1 (fun c j h => p29bbbfr c j (by omega) (by omega) (by omega) (by omega) (by omega)) (fun c j h => rfl)) (fun c j h => by
            by_cases w2 : c = 138 ∧ 13 ≤ j
            · rw [w2.1]; exact w.2.2 j w2.2 (by omega)
            · exact p29bbbfr c j (by omega) (by omega) (by omega) (by omega) (by omega)) (fun j => rfl)
          have z8 := hW1.2.1.1.1
          exact zWk_x (zWk_o hW1 (by omega) (zxe.trans (by omega)) (fun c j h => zxcj (by omega) rfl) (by rw [← w.2.1]; exact congrArg zn (zxe' (by omega))) (fun c j h => zxcj (by omega) rfl)) ((if_pos (show s.1.2.1.1 < 40 by omega)).symm.trans (if_pos w.1).symm)
        · exfalso; have w2 := w.2.1; omega)
