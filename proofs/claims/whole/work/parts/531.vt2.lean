/-! vt2 -/
def T_V_read : ZT := fun args I L R S Q => ∃ (k : Nat) (c : Nat → Int) (n : Nat) (fm : Int), args = [zvr k] ∧ (zDy zT20 zF20 k R S) ∧ (zRM k c n I) ∧ (tOk c n) ∧ (I k 1 = fm) ∧ (0 ≤ fm ∧ fm ≤ 1) ∧ ∀ (v : Int) (I' : ZI) (L' : ZI), ((fm = 0 ∧ zVQ k c n 1 v I' L') ∨ (fm = 1 ∧ zVQ k c n 0 v I' L')) → (v < 0 → ∀ j : Nat, (j = 4 ∨ j = 13 ∨ j = 14 ∨ j = 27) → I' k j = I k j) → (v < 0 → ∀ x j : Nat, k + 2 ≤ x → x ≤ k + 9 → I' x j = I x j ∧ L' x j = L x j) → (∀ c j : Nat, ¬ (c = k ∧ j = 0) → ¬ (c = k ∧ j = 4) → ¬ (c = k ∧ j = 13) → ¬ (c = k ∧ j = 14) → ¬ (c = k ∧ j = 27) → ¬ (c = k ∧ j = 15) → ¬ (c = k ∧ j = 16) → ¬ (c = k ∧ j = 17) → ¬ (c = k ∧ j = 18) → ¬ (c = k ∧ j = 20) → ¬ (c = k ∧ j = 21) → ¬ (c = k ∧ j = 22) → ¬ (c = k ∧ j = 29) → ¬ (c = k ∧ j = 30) → ¬ c = k + 2 → ¬ c = k + 3 → ¬ c = k + 5 → ¬ c = k + 6 → ¬ c = k + 7 → ¬ c = k + 8 → ¬ c = k + 9 → ¬ c = k + 10 → ¬ c = k + 11 → I' c j = I c j) → (∀ c j : Nat, ¬ (c = k ∧ j = 28) → ¬ c = k + 4 → L' c j = L c j) → Q (some (zvi (v))) I' L' R S
theorem sn_V_read : ZSnd 9 20 32 T_V_read := ZSnd.of (zT20_32 8) (by
  rintro args I L R S Q hz ⟨k, c, n, fm, rfl, hD, hX, hc, hfm, hfm2, hQ⟩
  obtain ⟨x1, x2⟩ := id hX
  have hn4 := hc.1
  have hk40 := hD.1
  refine And.intro rfl ?_
  refine And.intro (zDX hD 0 rfl) ⟨_, (zWi (zRb rfl)), ?_⟩
  refine And.intro (zDX hD 0 rfl) ⟨_, sn_V_go.up (by decide), ?_⟩
  refine ⟨k, c, n, 0, fm, rfl, hD, (by first | exact (zRM_fr hX (fun c j h => (zxcj (by omega) rfl))) | (clear hQ; grind [xu])), (by first | exact hc | (clear hQ; grind [xu])), (by omega), (zxs (by decide) hfm), (by omega), ?_⟩
  intro I7o L7o p7hF p7bfr p7bbfrL
  refine And.intro (zDX hD 0 rfl) (fun v11 e11 r11 => ?_)
  refine And.intro ⟨r11, (zRb rfl)⟩ ⟨fun h15 => ?_, fun h15 => ?_⟩
  · refine And.intro (zDX hD 0 rfl) ⟨_, sn_V_go.up (by decide), ?_⟩
    refine ⟨k, c, n, 1, fm, rfl, hD, (by first | exact (zRM_fr hX (fun c j h => ((p7bfr c j (by omega) (by omega) (by omega) (by omega) (by omega) (by omega) (by omega) (by omega) (by omega) (by omega) (by omega) (by omega) (by omega) (by omega) (by omega) (by omega) (by omega) (by omega)).trans (zxcj (by omega) rfl)))) | (clear hQ; grind [xu])), (by first | exact hc | (clear hQ; grind [xu])), (by omega), ((p7bfr k 1 (by omega) (by omega) (by omega) (by omega) (by omega) (by omega) (by omega) (by omega) (by omega) (by omega) (by omega) (by omega) (by omega) (by omega) (by omega) (by omega) (by omega) (by omega)).trans (zxs (by decide) hfm)), (by omega), ?_⟩
    intro I27o L27o p27hF p27bfr p27bbfrL
    refine And.intro (zDX hD 0 rfl) (fun v32 e32 r32 => ?_)
    refine And.intro (zDX hD 0 rfl) ⟨_, (zWi r32), ?_⟩
    refine And.intro (zDX hD 0 rfl) (fun v40 e40 r40 => ?_)
    refine And.intro (zDX hD 0 rfl) ⟨_, (zWi r40), ?_⟩
    refine And.intro (zDX hD 0 rfl) (fun v48 e48 r48 => ?_)
    refine And.intro (zDX hD 0 rfl) ⟨_, (zWi r48), ?_⟩
    refine And.intro ⟨(zDX hD 0 rfl), (Or.inr rfl)⟩ ?_
    refine And.intro (zDX hD 0 rfl) (zrd (v := v32) (zxs (by decide) (zxs (by decide) (zxs (by decide) zxe))) ?_)
    refine hQ _ _ _ ?_ ?_ ?_ (fun c j h0 h1 h2 h3 h4 h5 h6 h7 h8 h9 h10 h11 h12 h13 h14 h15 h16 h17 h18 h19 h20 h21 h22 => (zxcj h4 (zxcj h3 (zxcj h2 (zxcj h1 ((p27bfr c j h5 h6 h7 h8 h9 h10 h11 h12 h13 (fun w => h14 w.1) (fun w => h15 w.1) (fun w => h16 w.1) (fun w => h17 w.1) (fun w => h18 w.1) (fun w => h19 w.1) (fun w => h20 w.1) h21 h22).trans ((p7bfr c j h5 h6 h7 h8 h9 h10 h11 h12 h13 (fun w => h14 w.1) (fun w => h15 w.1) (fun w => h16 w.1) (fun w => h17 w.1) (fun w => h18 w.1) (fun w => h19 w.1) (fun w => h20 w.1) h21 h22).trans (zxcj h0 rfl)))))))) (fun c j h0 h1 => ((p27bbfrL c j h0 (fun w => h1 w.1)).trans ((p7bbfrL c j h0 (fun w => h1 w.1)).trans rfl)))
    · first
      | (have a4 : v40 = I27o k 22 := e40.trans (zxs (by omega) rfl)
         have a8 : v48 = I27o k 16 := e48.trans (zxs (by omega) (zxs (by omega) rfl))
         rcases p7hF with ⟨e, w⟩ | ⟨e, w⟩
         · rcases p27hF with ⟨e2, w2⟩ | ⟨e2, w2⟩
           · exact Or.inl ⟨e, zVQ_g w (by omega) w2 e32 (zxs (by omega) (zxs (by omega) (zxs (by omega) (zxe.trans e32)))) (zxs (by omega) (zxs (by omega) (zxe.trans a4))) (zxs (by omega) (zxe.trans a8)) zxe (fun x j h => zxcj (by omega) (zxcj (by omega) (zxcj (by omega) (zxcj (by omega) rfl)))) (fun x j h => rfl)⟩
           · exfalso; omega
         · rcases p27hF with ⟨e2, w2⟩ | ⟨e2, w2⟩
           · exfalso; omega
           · exact Or.inr ⟨e, zVQ_g w (by omega) w2 e32 (zxs (by omega) (zxs (by omega) (zxs (by omega) (zxe.trans e32)))) (zxs (by omega) (zxs (by omega) (zxe.trans a4))) (zxs (by omega) (zxe.trans a8)) zxe (fun x j h => zxcj (by omega) (zxcj (by omega) (zxcj (by omega) (zxcj (by omega) rfl)))) (fun x j h => rfl)⟩)
      | (rcases p7hF with ⟨e, w⟩ | ⟨e, w⟩
         · exact Or.inl ⟨e, zVQ_f w (by omega) (by omega)⟩
         · exact Or.inr ⟨e, zVQ_f w (by omega) (by omega)⟩)
    · intro h
      first
      | (exfalso
         have w9 : 0 ≤ I27o k 17 := by
           rcases p7hF with ⟨e, w⟩ | ⟨e, w⟩
           · rcases p27hF with ⟨e2, w2⟩ | ⟨e2, w2⟩
             · exact zVQ_n w (by omega) w2
             · exfalso; omega
           · rcases p27hF with ⟨e2, w2⟩ | ⟨e2, w2⟩
             · exfalso; omega
             · exact zVQ_n w (by omega) w2
         omega)
      | exact fun j hj => (p7bfr k j (by omega) (by omega) (by omega) (by omega) (by omega) (by omega) (by omega) (by omega) (by omega) (by omega) (by omega) (by omega) (by omega) (by omega) (by omega) (by omega) (by omega) (by omega)).trans (zxs (by omega) rfl)
    · intro h
      first
      | (exfalso
         have w9 : 0 ≤ I27o k 17 := by
           rcases p7hF with ⟨e, w⟩ | ⟨e, w⟩
           · rcases p27hF with ⟨e2, w2⟩ | ⟨e2, w2⟩
             · exact zVQ_n w (by omega) w2
             · exfalso; omega
           · rcases p27hF with ⟨e2, w2⟩ | ⟨e2, w2⟩
             · exfalso; omega
             · exact zVQ_n w (by omega) w2
         omega)
      | exact fun x j h1 h2 => ⟨(p7bfr x j (by omega) (by omega) (by omega) (by omega) (by omega) (by omega) (by omega) (by omega) (by omega) (by omega) (by omega) (by omega) (by omega) (by omega) (by omega) (by omega) (by omega) (by omega)).trans (zxu (by omega) rfl), p7bbfrL x j (by omega) (by omega)⟩
  · refine And.intro (zDX hD 0 rfl) (fun v20 e20 r20 => ?_)
    refine hQ _ _ _ ?_ ?_ ?_ (fun c j h0 h1 h2 h3 h4 h5 h6 h7 h8 h9 h10 h11 h12 h13 h14 h15 h16 h17 h18 h19 h20 h21 h22 => ((p7bfr c j h5 h6 h7 h8 h9 h10 h11 h12 h13 (fun w => h14 w.1) (fun w => h15 w.1) (fun w => h16 w.1) (fun w => h17 w.1) (fun w => h18 w.1) (fun w => h19 w.1) (fun w => h20 w.1) h21 h22).trans (zxcj h0 rfl))) (fun c j h0 h1 => ((p7bbfrL c j h0 (fun w => h1 w.1)).trans rfl))
    · first
      | (have a4 : v40 = I27o k 22 := e40.trans (zxs (by omega) rfl)
         have a8 : v48 = I27o k 16 := e48.trans (zxs (by omega) (zxs (by omega) rfl))
         rcases p7hF with ⟨e, w⟩ | ⟨e, w⟩
         · rcases p27hF with ⟨e2, w2⟩ | ⟨e2, w2⟩
           · exact Or.inl ⟨e, zVQ_g w (by omega) w2 e32 (zxs (by omega) (zxs (by omega) (zxs (by omega) (zxe.trans e32)))) (zxs (by omega) (zxs (by omega) (zxe.trans a4))) (zxs (by omega) (zxe.trans a8)) zxe (fun x j h => zxcj (by omega) (zxcj (by omega) (zxcj (by omega) (zxcj (by omega) rfl)))) (fun x j h => rfl)⟩
           · exfalso; omega
         · rcases p27hF with ⟨e2, w2⟩ | ⟨e2, w2⟩
           · exfalso; omega
           · exact Or.inr ⟨e, zVQ_g w (by omega) w2 e32 (zxs (by omega) (zxs (by omega) (zxs (by omega) (zxe.trans e32)))) (zxs (by omega) (zxs (by omega) (zxe.trans a4))) (zxs (by omega) (zxe.trans a8)) zxe (fun x j h => zxcj (by omega) (zxcj (by omega) (zxcj (by omega) (zxcj (by omega) rfl)))) (fun x j h => rfl)⟩)
      | (rcases p7hF with ⟨e, w⟩ | ⟨e, w⟩
         · exact Or.inl ⟨e, zVQ_f w (by omega) (by omega)⟩
         · exact Or.inr ⟨e, zVQ_f w (by omega) (by omega)⟩)
    · intro h
      first
      | (exfalso
         have w9 : 0 ≤ I27o k 17 := by
           rcases p7hF with ⟨e, w⟩ | ⟨e, w⟩
           · rcases p27hF with ⟨e2, w2⟩ | ⟨e2, w2⟩
             · exact zVQ_n w (by omega) w2
             · exfalso; omega
           · rcases p27hF with ⟨e2, w2⟩ | ⟨e2, w2⟩
             · exfalso; omega
             · exact zVQ_n w (by omega) w2
         omega)
      | exact fun j hj => (p7bfr k j (by omega) (by omega) (by omega) (by omega) (by omega) (by omega) (by omega) (by omega) (by omega) (by omega) (by omega) (by omega) (by omega) (by omega) (by omega) (by omega) (by omega) (by omega)).trans (zxs (by omega) rfl)
    · intro h
      first
      | (exfalso
         have w9 : 0 ≤ I27o k 17 := by
           rcases p7hF with ⟨e, w⟩ | ⟨e, w⟩
           · rcases p27hF with ⟨e2, w2⟩ | ⟨e2, w2⟩
             · exact zVQ_n w (by omega) w2
             · exfalso; omega
           · rcases p27hF with ⟨e2, w2⟩ | ⟨e2, w2⟩
             · exfalso; omega
             · exact zVQ_n w (by omega) w2
         omega)
      | exact fun x j h1 h2 => ⟨(p7bfr x j (by omega) (by omega) (by omega) (by omega) (by omega) (by omega) (by omega) (by omega) (by omega) (by omega) (by omega) (by omega) (by omega) (by omega) (by omega) (by omega) (by omega) (by omega)).trans (zxu (by omega) rfl), p7bbfrL x j (by omega) (by omega)⟩)
