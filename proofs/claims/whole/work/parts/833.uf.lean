/-! uf -/
def T_E_wchN (D : Nat) : ZT := fun args I L R S Q => ∃ (k : Nat) (n : Nat) (e : Nat → Int) (cl : Nat → Int) (fn : Nat → Int) (G : WkG) (M : WkM) (r : Nat) (p : Nat) (i : Nat) (t1 : Nat) (j1 : Nat) (cc : Nat) (d : Nat) (s : WkS), args = [zvr 138, zvi p, zvi cc, zvi d] ∧ (zSh S) ∧ (zRs R) ∧ (zDy zT8 zF8 k R S) ∧ (k = 130 ∨ k = 134) ∧ (zEt k n e I) ∧ (R 138 0 = some k) ∧ (zCl k n cl fn I) ∧ (wfA n e cl fn M G) ∧ (cc ≤ 2) ∧ (zWk n e M (wkSp s) I L) ∧ (wkGo s) ∧ (s.2.1 < M.2.2.1) ∧ (d + 1 + D = 10) ∧ (d + 1 + r + 4 ≤ 6 + 2 * cc) ∧ (p < n) ∧ ((exEx e 3 (p + 1)).1 = 1) ∧ (cl (exEx e 3 (p + 1)).2.1 = (t1 : Int)) ∧ ((exEx e 3 (p + 1)).2.1 < t1 ∧ t1 < n) ∧ (i ≤ M.2.2.2) ∧ (G r ((exEx e 3 (p + 1)).2.1 + 1) (i + 1) t1 j1) ∧ (e (t1 + 1) ≠ 123) ∧ (M.1 i = (5, (p : Int), 0, [], (exEx e 3 (p + 1)).2.2, (j1 : Int))) ∧ ∀ (v : Int) (s' : WkS) (I' : ZI) (L' : ZI), (v = t1 + 1) → (zWk n e M s' I' L') → (wkZ M d cc i s j1 s') → (∀ x : Nat, x < 72 * d → L' 141 x = L 141 x) → (∀ c j : Nat, ¬ (c = 138 ∧ j = 3) → ¬ (c = 138 ∧ j = 6) → ¬ (c = 138 ∧ j = 8) → ¬ (c = 138 ∧ j = 10) → ¬ (c = 138 ∧ j = 11) → ¬ (c = 138 ∧ j = 12) → ¬ (c = 138 ∧ j = 13) → ¬ (c = 138 ∧ j = 14) → ¬ (c = 138 ∧ j = 15) → ¬ (c = 138 ∧ j = 16) → ¬ (c = 138 ∧ j = 17) → ¬ c = 144 → I' c j = I c j) → (∀ c j : Nat, ¬ c = 139 → ¬ c = 140 → ¬ c = 141 → ¬ c = 142 → ¬ c = 143 → L' c j = L c j) → Q (some (zvi (v))) I' L' R S
theorem sn_E_wchN {hh D : Nat} (h29 : 29 ≤ hh) (hB : ZSnd hh 4 30 (T_E_wlk D)) : ZSnd (hh + 6) 4 34 (T_E_wchN D) := ZSnd.of (zT4_34 (hh + 5)) (by
  rintro args I L R S Q hz ⟨k, n, e, cl, fn, G, M, r, p, i, t1, j1, cc, d, s, rfl, hS, hR, hD, hk, hE, hsc, hC, hA, hcc, hW, hgo, hl, hd, hr, hp, hg, hcl, hq, hi, hG, hne, hMi, hQ⟩
  have hk130 : 130 ≤ k := by omega
  have hk134 : k ≤ 134 := by omega
  obtain ⟨hE1, hE2, hE3⟩ := id hE
  have hn4 := hE2.1
  obtain ⟨g11, g12, g13, g3, g6, g8, g10⟩ := zWk_n hW (wkGo_sp hgo)
  have h9 := evF_9 (E := s.1.1) (l := (exEx e 3 (p + 1)).2.2)
  obtain ⟨ef, hef⟩ : ∃ q : Nat, evF s.1.1 (exEx e 3 (p + 1)).2.2 = q := ⟨_, rfl⟩
  refine And.intro rfl ?_
  refine And.intro (zA_138 hS) ⟨_, sn_E_rki.up (Nat.le_trans (show 27 ≤ 29 by decide) (Nat.le_trans h29 (Nat.le_add_right hh 5))), ?_⟩
  refine ⟨k, n, e, (p + 1), p, s.1.1, rfl, hS, hR, hD, (by first | exact hk | (clear hQ; grind [xu])), (by first | exact (zEt_fr hE (fun c j h => rfl)) | (clear hQ; grind [xu])), hsc, hW.1, (by omega), hg, (show r32 (p : Int) from ⟨by omega, by omega⟩), ?_⟩
  intro v5o I5o p5hr p5bhv64 p5bbh16 p5bbbfr
  have g5 : (evF s.1.1 (exEx e 3 (p + 1)).2.2 = 0 ∧ (zWk n e M (wkSp s) I5o L ∧ v5o = evV s.1.1 (exEx e 3 (p + 1)).2.2)) ∨ (¬ evF s.1.1 (exEx e 3 (p + 1)).2.2 = 0 ∧ zWk n e M (wkF (wkSp s) (evF s.1.1 (exEx e 3 (p + 1)).2.2 : Nat) p 0) I5o L) := (zWk_rk (s := wkSp s) p5hr hW (fun c j h => p5bbbfr c j (by omega) (by omega) (by omega) (by omega) (by omega)))
  rcases g5 with w5 | w5
  · refine And.intro (zA_138 hS) (zrd (v := (((exEx e 3 (p + 1)).2.1 : Nat))) p5bbh16 ?_)
    refine And.intro (zA_138 hS) (zrdR (v := some k) hsc ?_)
    refine And.intro (zDX hD 0 rfl) ⟨_, sn_S_cl2.up (Nat.le_trans (show 1 ≤ 5 by decide) (Nat.le_add_left 5 hh)), ?_⟩
    refine ⟨k, n, e, ((exEx e 3 (p + 1)).2.1), t1, cl, fn, rfl, hS, hR, hD, (by first | exact hk | (clear hQ; grind [xu])), (zEt_fr hE (fun c j h => ((p5bbbfr c j (by omega) (by omega) (by omega) (by omega) (by omega)).trans rfl))), (zCl_fr hC (fun c j h => ((p5bbbfr c j (by omega) (by omega) (by omega) (by omega) (by omega)).trans rfl))), hcl, (by omega), ?_⟩
    refine And.intro (zA_138 hS) (zrdR (v := some k) hsc ?_)
    refine And.intro (zDX hD 0 rfl) ⟨_, sn_S_let.up (Nat.le_trans (show 1 ≤ 5 by decide) (Nat.le_add_left 5 hh)), ?_⟩
    refine ⟨k, n, e, ((t1 + 1) : Int), (t1 + 1), rfl, hS, hR, hD, (by first | exact hk | (clear hQ; grind [xu])), (zEt_fr hE (fun c j h => ((p5bbbfr c j (by omega) (by omega) (by omega) (by omega) (by omega)).trans rfl))), (by omega), ?_⟩
    intro v35o p35hv p35bhv2
    refine And.intro ⟨(by omega), (zRb rfl)⟩ ⟨fun h40 => ?_, (fun h40 => False.elim (by omega))⟩
    refine And.intro (zA_138 hS) (Exists.intro _ (And.intro (zinl_ok (zT4_15 (hh + 4))) (And.intro rfl ?_)))
    refine And.intro (zA_138 hS) (zrd (v := 0) ((p5bbbfr 138 12 (by omega) (by omega) (by omega) (by omega) (by omega)).trans g12) ?_)
    refine And.intro (zRb rfl) (zbf rfl ?_)
    refine And.intro (zA_138 hS) (zrd (v := 0) (zWk_n w5.2.1 (wkGo_sp hgo)).2.2.1 ?_)
    refine And.intro (zRb rfl) (zbf rfl ?_)
    refine And.intro (Or.inr rfl) ?_
    refine And.intro (zRb rfl) (zbf rfl ?_)
    refine ⟨_, _, ⟨zW6i (by omega), zW6i (zRL rfl)⟩, fun z60 c60 => ?_⟩
    refine And.intro c60.2.2 ⟨fun h61 => ?_, fun h61 => ?_⟩
    · refine And.intro (zA_138 hS) (Exists.intro _ (And.intro (zinl_ok (zT4_15 (hh + 4))) (And.intro rfl ?_)))
      refine And.intro (zA_138 hS) (zrd (v := 0) ((p5bbbfr 138 12 (by omega) (by omega) (by omega) (by omega) (by omega)).trans g12) ?_)
      refine And.intro (zRb rfl) (zbf rfl ?_)
      refine And.intro (zA_138 hS) (zrd (v := 0) (zWk_n w5.2.1 (wkGo_sp hgo)).2.2.1 ?_)
      refine And.intro (zRb rfl) (zbf rfl ?_)
      refine And.intro (Or.inr rfl) ?_
      refine And.intro (zRb rfl) (zbf rfl ?_)
      refine And.intro (zRb rfl) (zbt rfl ?_)
      refine And.intro (zRb rfl) (zbt rfl ?_)
      refine hQ _ _ _ _ (by omega) w5.2.1 (wkI_e hMi (Or.inl rfl) hgo hi hl w5.1 (show evV s.1.1 (exEx e 3 (p + 1)).2.2 = 0 by have := w5.2.2; omega)) (fun x _ => rfl) (fun c j h0 h1 h2 h3 h4 h5 h6 h7 h8 h9 h10 h11 => ((p5bbbfr c j h6 h7 h8 h9 h10).trans rfl)) (fun c j h0 h1 h2 h3 h4 => rfl)
    · refine And.intro (zA_138 hS) ⟨_, (sn_E_wbl h29 hB).up (Nat.add_le_add_left (show 3 ≤ 5 by decide) hh), ?_⟩
      refine ⟨k, n, e, cl, fn, G, M, r, ((exEx e 3 (p + 1)).2.1), (i + 1), t1, j1, cc, d, (wkSp s), rfl, hS, hR, hD, (by first | exact hk | (clear hQ; grind [xu])), (zEt_fr hE (fun c j h => ((p5bbbfr c j (by omega) (by omega) (by omega) (by omega) (by omega)).trans rfl))), hsc, (zCl_fr hC (fun c j h => ((p5bbbfr c j (by omega) (by omega) (by omega) (by omega) (by omega)).trans rfl))), hA, (by omega), w5.2.1, (wkGo_sp hgo), hd, hr, hcl, hq, hG, ?_⟩
      intro s69o I69o L69o p69hW p69bhZ p69bbhK p69bbbfr p69bbbbfrL
      refine And.intro (zRb rfl) (zbt rfl ?_)
      refine hQ _ _ _ _ (by omega) p69hW (wkI_b (wkI_t hMi (Or.inl rfl) hgo hi hl w5.1 (show ¬ evV s.1.1 (exEx e 3 (p + 1)).2.2 = 0 by have := w5.2.2; omega)) (wkGo_sp hgo) p69bhZ) (fun x hx => p69bbhK x (by omega)) (fun c j h0 h1 h2 h3 h4 h5 h6 h7 h8 h9 h10 h11 => ((p69bbbfr c j h0 h1 h2 h3 h4 h5 h6 h7 h8 h9 h10 h11).trans ((p5bbbfr c j h6 h7 h8 h9 h10).trans rfl))) (fun c j h0 h1 h2 h3 h4 => ((p69bbbbfrL c j h0 h1 h2 h3 h4).trans rfl))
  · refine And.intro (zA_138 hS) (zrd (v := (((exEx e 3 (p + 1)).2.1 : Nat))) p5bbh16 ?_)
    refine And.intro (zA_138 hS) (zrdR (v := some k) hsc ?_)
    refine And.intro (zDX hD 0 rfl) ⟨_, sn_S_cl2.up (Nat.le_trans (show 1 ≤ 5 by decide) (Nat.le_add_left 5 hh)), ?_⟩
    refine ⟨k, n, e, ((exEx e 3 (p + 1)).2.1), t1, cl, fn, rfl, hS, hR, hD, (by first | exact hk | (clear hQ; grind [xu])), (zEt_fr hE (fun c j h => ((p5bbbfr c j (by omega) (by omega) (by omega) (by omega) (by omega)).trans rfl))), (zCl_fr hC (fun c j h => ((p5bbbfr c j (by omega) (by omega) (by omega) (by omega) (by omega)).trans rfl))), hcl, (by omega), ?_⟩
    refine And.intro (zA_138 hS) (zrdR (v := some k) hsc ?_)
    refine And.intro (zDX hD 0 rfl) ⟨_, sn_S_let.up (Nat.le_trans (show 1 ≤ 5 by decide) (Nat.le_add_left 5 hh)), ?_⟩
    refine ⟨k, n, e, ((t1 + 1) : Int), (t1 + 1), rfl, hS, hR, hD, (by first | exact hk | (clear hQ; grind [xu])), (zEt_fr hE (fun c j h => ((p5bbbfr c j (by omega) (by omega) (by omega) (by omega) (by omega)).trans rfl))), (by omega), ?_⟩
    intro v35o p35hv p35bhv2
    refine And.intro ⟨(by omega), (zRb rfl)⟩ ⟨fun h40 => ?_, (fun h40 => False.elim (by omega))⟩
    refine And.intro (zA_138 hS) (Exists.intro _ (And.intro (zinl_ok (zT4_15 (hh + 4))) (And.intro rfl ?_)))
    refine And.intro (zA_138 hS) (zrd (v := 0) ((p5bbbfr 138 12 (by omega) (by omega) (by omega) (by omega) (by omega)).trans g12) ?_)
    refine And.intro (zRb rfl) (zbf rfl ?_)
    refine And.intro (zA_138 hS) (zrd (v := ef) (w5.2.2.2.2.2.2.1.trans (congrArg (fun q : Nat => (q : Int)) hef)) ?_)
    refine And.intro (by omega) ⟨fun h11_51 => ?_, (fun h11_51 => False.elim (by omega))⟩
    refine And.intro (Or.inl rfl) ?_
    refine And.intro (zRb rfl) (zbt rfl ?_)
    refine And.intro (zA_138 hS) (Exists.intro _ (And.intro (zinl_ok (zT4_15 (hh + 4))) (And.intro rfl ?_)))
    refine And.intro (zA_138 hS) (zrd (v := 0) ((p5bbbfr 138 12 (by omega) (by omega) (by omega) (by omega) (by omega)).trans g12) ?_)
    refine And.intro (zRb rfl) (zbf rfl ?_)
    refine And.intro (zA_138 hS) (zrd (v := ef) (w5.2.2.2.2.2.2.1.trans (congrArg (fun q : Nat => (q : Int)) hef)) ?_)
    refine And.intro (by omega) ⟨fun h11_77 => ?_, (fun h11_77 => False.elim (by omega))⟩
    refine And.intro (Or.inl rfl) ?_
    refine And.intro (zRb rfl) (zbt rfl ?_)
    refine And.intro (zRb rfl) (zbt rfl ?_)
    refine hQ _ _ _ _ (by omega) w5.2 (wkI_f hMi (Or.inl rfl) hgo hi hl w5.1) (fun x _ => rfl) (fun c j h0 h1 h2 h3 h4 h5 h6 h7 h8 h9 h10 h11 => ((p5bbbfr c j h6 h7 h8 h9 h10).trans rfl)) (fun c j h0 h1 h2 h3 h4 => rfl))
def T_E_wchE (D : Nat) : ZT := fun args I L R S Q => ∃ (k : Nat) (n : Nat) (e : Nat → Int) (cl : Nat → Int) (fn : Nat → Int) (G : WkG) (M : WkM) (r : Nat) (p : Nat) (i : Nat) (t1 : Nat) (j1 : Nat) (cc : Nat) (d : Nat) (s : WkS) (t2 : Nat) (j2 : Nat), args = [zvr 138, zvi p, zvi cc, zvi d] ∧ (zSh S) ∧ (zRs R) ∧ (zDy zT8 zF8 k R S) ∧ (k = 130 ∨ k = 134) ∧ (zEt k n e I) ∧ (R 138 0 = some k) ∧ (zCl k n cl fn I) ∧ (wfA n e cl fn M G) ∧ (cc ≤ 2) ∧ (zWk n e M (wkSp s) I L) ∧ (wkGo s) ∧ (s.2.1 < M.2.2.1) ∧ (d + 1 + D = 10) ∧ (d + 1 + r + 4 ≤ 6 + 2 * cc) ∧ (p < n) ∧ ((exEx e 3 (p + 1)).1 = 1) ∧ (cl (exEx e 3 (p + 1)).2.1 = (t1 : Int)) ∧ ((exEx e 3 (p + 1)).2.1 < t1 ∧ t1 < n) ∧ (i ≤ M.2.2.2) ∧ (G r ((exEx e 3 (p + 1)).2.1 + 1) (i + 1) t1 j1) ∧ (e (t1 + 1) = 123) ∧ (M.1 i = (5, (p : Int), 0, [], (exEx e 3 (p + 1)).2.2, ((j1 + 1 : Nat) : Int))) ∧ ((M.1 j1).1 = 17 ∧ (M.1 j1).2.2.2.2.2 = (j2 : Int)) ∧ (j1 ≤ M.2.2.2) ∧ (cl (t1 + 1) = (t2 : Int)) ∧ (t1 + 1 < t2 ∧ t2 < n) ∧ (G r (t1 + 2) (j1 + 1) t2 j2) ∧ ∀ (v : Int) (s' : WkS) (I' : ZI) (L' : ZI), (v = t2 + 1) → (zWk n e M s' I' L') → (wkZ M d cc i s j2 s') → (∀ x : Nat, x < 72 * d → L' 141 x = L 141 x) → (∀ c j : Nat, ¬ (c = 138 ∧ j = 3) → ¬ (c = 138 ∧ j = 6) → ¬ (c = 138 ∧ j = 8) → ¬ (c = 138 ∧ j = 10) → ¬ (c = 138 ∧ j = 11) → ¬ (c = 138 ∧ j = 12) → ¬ (c = 138 ∧ j = 13) → ¬ (c = 138 ∧ j = 14) → ¬ (c = 138 ∧ j = 15) → ¬ (c = 138 ∧ j = 16) → ¬ (c = 138 ∧ j = 17) → ¬ c = 144 → I' c j = I c j) → (∀ c j : Nat, ¬ c = 139 → ¬ c = 140 → ¬ c = 141 → ¬ c = 142 → ¬ c = 143 → L' c j = L c j) → Q (some (zvi (v))) I' L' R S
theorem sn_E_wchE {hh D : Nat} (h29 : 29 ≤ hh) (hB : ZSnd hh 4 30 (T_E_wlk D)) : ZSnd (hh + 6) 4 34 (T_E_wchE D) := ZSnd.of (zT4_34 (hh + 5)) (by
  rintro args I L R S Q hz ⟨k, n, e, cl, fn, G, M, r, p, i, t1, j1, cc, d, s, t2, j2, rfl, hS, hR, hD, hk, hE, hsc, hC, hA, hcc, hW, hgo, hl, hd, hr, hp, hg, hcl, hq, hi, hG, hne, hMi, hj1, hjt, hcl2, hq2, hG2, hQ⟩
  have hk130 : 130 ≤ k := by omega
  have hk134 : k ≤ 134 := by omega
  obtain ⟨hE1, hE2, hE3⟩ := id hE
  have hn4 := hE2.1
  obtain ⟨g11, g12, g13, g3, g6, g8, g10⟩ := zWk_n hW (wkGo_sp hgo)
  have h9 := evF_9 (E := s.1.1) (l := (exEx e 3 (p + 1)).2.2)
  obtain ⟨ef, hef⟩ : ∃ q : Nat, evF s.1.1 (exEx e 3 (p + 1)).2.2 = q := ⟨_, rfl⟩
  refine And.intro rfl ?_
  refine And.intro (zA_138 hS) ⟨_, sn_E_rki.up (Nat.le_trans (show 27 ≤ 29 by decide) (Nat.le_trans h29 (Nat.le_add_right hh 5))), ?_⟩
  refine ⟨k, n, e, (p + 1), p, s.1.1, rfl, hS, hR, hD, (by first | exact hk | (clear hQ; grind [xu])), (by first | exact (zEt_fr hE (fun c j h => rfl)) | (clear hQ; grind [xu])), hsc, hW.1, (by omega), hg, (show r32 (p : Int) from ⟨by omega, by omega⟩), ?_⟩
  intro v5o I5o p5hr p5bhv64 p5bbh16 p5bbbfr
  have g5 : (evF s.1.1 (exEx e 3 (p + 1)).2.2 = 0 ∧ (zWk n e M (wkSp s) I5o L ∧ v5o = evV s.1.1 (exEx e 3 (p + 1)).2.2)) ∨ (¬ evF s.1.1 (exEx e 3 (p + 1)).2.2 = 0 ∧ zWk n e M (wkF (wkSp s) (evF s.1.1 (exEx e 3 (p + 1)).2.2 : Nat) p 0) I5o L) := (zWk_rk (s := wkSp s) p5hr hW (fun c j h => p5bbbfr c j (by omega) (by omega) (by omega) (by omega) (by omega)))
  rcases g5 with w5 | w5
  · refine And.intro (zA_138 hS) (zrd (v := (((exEx e 3 (p + 1)).2.1 : Nat))) p5bbh16 ?_)
    refine And.intro (zA_138 hS) (zrdR (v := some k) hsc ?_)
    refine And.intro (zDX hD 0 rfl) ⟨_, sn_S_cl2.up (Nat.le_trans (show 1 ≤ 5 by decide) (Nat.le_add_left 5 hh)), ?_⟩
    refine ⟨k, n, e, ((exEx e 3 (p + 1)).2.1), t1, cl, fn, rfl, hS, hR, hD, (by first | exact hk | (clear hQ; grind [xu])), (zEt_fr hE (fun c j h => ((p5bbbfr c j (by omega) (by omega) (by omega) (by omega) (by omega)).trans rfl))), (zCl_fr hC (fun c j h => ((p5bbbfr c j (by omega) (by omega) (by omega) (by omega) (by omega)).trans rfl))), hcl, (by omega), ?_⟩
    refine And.intro (zA_138 hS) (zrdR (v := some k) hsc ?_)
    refine And.intro (zDX hD 0 rfl) ⟨_, sn_S_let.up (Nat.le_trans (show 1 ≤ 5 by decide) (Nat.le_add_left 5 hh)), ?_⟩
    refine ⟨k, n, e, ((t1 + 1) : Int), (t1 + 1), rfl, hS, hR, hD, (by first | exact hk | (clear hQ; grind [xu])), (zEt_fr hE (fun c j h => ((p5bbbfr c j (by omega) (by omega) (by omega) (by omega) (by omega)).trans rfl))), (by omega), ?_⟩
    intro v35o p35hv p35bhv2
    refine And.intro ⟨(by omega), (zRb rfl)⟩ ⟨(fun h40 => False.elim (by omega)), fun h40 => ?_⟩
    refine And.intro (zA_138 hS) (Exists.intro _ (And.intro (zinl_ok (zT4_15 (hh + 4))) (And.intro rfl ?_)))
    refine And.intro (zA_138 hS) (zrd (v := 0) ((p5bbbfr 138 12 (by omega) (by omega) (by omega) (by omega) (by omega)).trans g12) ?_)
    refine And.intro (zRb rfl) (zbf rfl ?_)
    refine And.intro (zA_138 hS) (zrd (v := 0) (zWk_n w5.2.1 (wkGo_sp hgo)).2.2.1 ?_)
    refine And.intro (zRb rfl) (zbf rfl ?_)
    refine And.intro (Or.inr rfl) ?_
    refine And.intro (zRb rfl) (zbf rfl ?_)
    refine ⟨_, _, ⟨zW6i (by omega), zW6i (zRL rfl)⟩, fun z60 c60 => ?_⟩
    refine And.intro c60.2.2 ⟨fun h61 => ?_, fun h61 => ?_⟩
    · refine And.intro (zA_138 hS) (Exists.intro _ (And.intro (zinl_ok (zT4_15 (hh + 4))) (And.intro rfl ?_)))
      refine And.intro (zA_138 hS) (zrd (v := 0) ((p5bbbfr 138 12 (by omega) (by omega) (by omega) (by omega) (by omega)).trans g12) ?_)
      refine And.intro (zRb rfl) (zbf rfl ?_)
      refine And.intro (zA_138 hS) (zrd (v := 0) (zWk_n w5.2.1 (wkGo_sp hgo)).2.2.1 ?_)
      refine And.intro (zRb rfl) (zbf rfl ?_)
      refine And.intro (Or.inr rfl) ?_
      refine And.intro (zRb rfl) (zbf rfl ?_)
      refine And.intro (zRb rfl) (zbf rfl ?_)
      refine And.intro (zA_138 hS) ⟨_, (sn_E_wbl h29 hB).up (Nat.add_le_add_left (show 3 ≤ 5 by decide) hh), ?_⟩
      refine ⟨k, n, e, cl, fn, G, M, r, (t1 + 1), (j1 + 1), t2, j2, cc, d, (wkSp s), rfl, hS, hR, hD, (by first | exact hk | (clear hQ; grind [xu])), (zEt_fr hE (fun c j h => ((p5bbbfr c j (by omega) (by omega) (by omega) (by omega) (by omega)).trans rfl))), hsc, (zCl_fr hC (fun c j h => ((p5bbbfr c j (by omega) (by omega) (by omega) (by omega) (by omega)).trans rfl))), hA, (by omega), w5.2.1, (wkGo_sp hgo), hd, hr, hcl2, hq2, hG2, ?_⟩
      intro s93o I93o L93o p93hW p93bhZ p93bbhK p93bbbfr p93bbbbfrL
      refine And.intro (zRb rfl) (zbf rfl ?_)
      refine And.intro (zA_138 hS) (zrdR (v := some k) hsc ?_)
      refine And.intro (zDX hD 0 rfl) ⟨_, sn_S_cl2.up (Nat.le_trans (show 1 ≤ 5 by decide) (Nat.le_add_left 5 hh)), ?_⟩
      refine ⟨k, n, e, (t1 + 1), t2, cl, fn, rfl, hS, hR, hD, (by first | exact hk | (clear hQ; grind [xu])), (zEt_fr hE (fun c j h => ((p93bbbfr c j (by omega) (by omega) (by omega) (by omega) (by omega) (by omega) (by omega) (by omega) (by omega) (by omega) (by omega) (by omega)).trans ((p5bbbfr c j (by omega) (by omega) (by omega) (by omega) (by omega)).trans rfl)))), (zCl_fr hC (fun c j h => ((p93bbbfr c j (by omega) (by omega) (by omega) (by omega) (by omega) (by omega) (by omega) (by omega) (by omega) (by omega) (by omega) (by omega)).trans ((p5bbbfr c j (by omega) (by omega) (by omega) (by omega) (by omega)).trans rfl)))), hcl2, (by omega), ?_⟩
      refine hQ _ _ _ _ (by omega) p93hW (wkI_b (wkI_e hMi (Or.inl rfl) hgo hi hl w5.1 (show evV s.1.1 (exEx e 3 (p + 1)).2.2 = 0 by have := w5.2.2; omega)) (wkGo_sp hgo) p93bhZ) (fun x hx => p93bbhK x (by omega)) (fun c j h0 h1 h2 h3 h4 h5 h6 h7 h8 h9 h10 h11 => ((p93bbbfr c j h0 h1 h2 h3 h4 h5 h6 h7 h8 h9 h10 h11).trans ((p5bbbfr c j h6 h7 h8 h9 h10).trans rfl))) (fun c j h0 h1 h2 h3 h4 => ((p93bbbbfrL c j h0 h1 h2 h3 h4).trans rfl))
    · refine And.intro (zA_138 hS) ⟨_, (sn_E_wbl h29 hB).up (Nat.add_le_add_left (show 3 ≤ 5 by decide) hh), ?_⟩
      refine ⟨k, n, e, cl, fn, G, M, r, ((exEx e 3 (p + 1)).2.1), (i + 1), t1, j1, cc, d, (wkSp s), rfl, hS, hR, hD, (by first | exact hk | (clear hQ; grind [xu])), (zEt_fr hE (fun c j h => ((p5bbbfr c j (by omega) (by omega) (by omega) (by omega) (by omega)).trans rfl))), hsc, (zCl_fr hC (fun c j h => ((p5bbbfr c j (by omega) (by omega) (by omega) (by omega) (by omega)).trans rfl))), hA, (by omega), w5.2.1, (wkGo_sp hgo), hd, hr, hcl, hq, hG, ?_⟩
      intro s69o I69o L69o p69hW p69bhZ p69bbhK p69bbbfr p69bbbbfrL
      refine And.intro (zRb rfl) (zbf rfl ?_)
      refine And.intro (zA_138 hS) (zrdR (v := some k) hsc ?_)
      refine And.intro (zDX hD 0 rfl) ⟨_, sn_S_cl2.up (Nat.le_trans (show 1 ≤ 5 by decide) (Nat.le_add_left 5 hh)), ?_⟩
      refine ⟨k, n, e, (t1 + 1), t2, cl, fn, rfl, hS, hR, hD, (by first | exact hk | (clear hQ; grind [xu])), (zEt_fr hE (fun c j h => ((p69bbbfr c j (by omega) (by omega) (by omega) (by omega) (by omega) (by omega) (by omega) (by omega) (by omega) (by omega) (by omega) (by omega)).trans ((p5bbbfr c j (by omega) (by omega) (by omega) (by omega) (by omega)).trans rfl)))), (zCl_fr hC (fun c j h => ((p69bbbfr c j (by omega) (by omega) (by omega) (by omega) (by omega) (by omega) (by omega) (by omega) (by omega) (by omega) (by omega) (by omega)).trans ((p5bbbfr c j (by omega) (by omega) (by omega) (by omega) (by omega)).trans rfl)))), hcl2, (by omega), ?_⟩
      refine hQ _ _ _ _ (by omega) p69hW (wkI_j (wkI_b (wkI_t hMi (Or.inl rfl) hgo hi hl w5.1 (show ¬ evV s.1.1 (exEx e 3 (p + 1)).2.2 = 0 by have := w5.2.2; omega)) (wkGo_sp hgo) p69bhZ) hj1.1 hj1.2 hjt) (fun x hx => p69bbhK x (by omega)) (fun c j h0 h1 h2 h3 h4 h5 h6 h7 h8 h9 h10 h11 => ((p69bbbfr c j h0 h1 h2 h3 h4 h5 h6 h7 h8 h9 h10 h11).trans ((p5bbbfr c j h6 h7 h8 h9 h10).trans rfl))) (fun c j h0 h1 h2 h3 h4 => ((p69bbbbfrL c j h0 h1 h2 h3 h4).trans rfl))
  · refine And.intro (zA_138 hS) (zrd (v := (((exEx e 3 (p + 1)).2.1 : Nat))) p5bbh16 ?_)
    refine And.intro (zA_138 hS) (zrdR (v := some k) hsc ?_)
    refine And.intro (zDX hD 0 rfl) ⟨_, sn_S_cl2.up (Nat.le_trans (show 1 ≤ 5 by decide) (Nat.le_add_left 5 hh)), ?_⟩
    refine ⟨k, n, e, ((exEx e 3 (p + 1)).2.1), t1, cl, fn, rfl, hS, hR, hD, (by first | exact hk | (clear hQ; grind [xu])), (zEt_fr hE (fun c j h => ((p5bbbfr c j (by omega) (by omega) (by omega) (by omega) (by omega)).trans rfl))), (zCl_fr hC (fun c j h => ((p5bbbfr c j (by omega) (by omega) (by omega) (by omega) (by omega)).trans rfl))), hcl, (by omega), ?_⟩
    refine And.intro (zA_138 hS) (zrdR (v := some k) hsc ?_)
    refine And.intro (zDX hD 0 rfl) ⟨_, sn_S_let.up (Nat.le_trans (show 1 ≤ 5 by decide) (Nat.le_add_left 5 hh)), ?_⟩
    refine ⟨k, n, e, ((t1 + 1) : Int), (t1 + 1), rfl, hS, hR, hD, (by first | exact hk | (clear hQ; grind [xu])), (zEt_fr hE (fun c j h => ((p5bbbfr c j (by omega) (by omega) (by omega) (by omega) (by omega)).trans rfl))), (by omega), ?_⟩
    intro v35o p35hv p35bhv2
    refine And.intro ⟨(by omega), (zRb rfl)⟩ ⟨(fun h40 => False.elim (by omega)), fun h40 => ?_⟩
    refine And.intro (zA_138 hS) (Exists.intro _ (And.intro (zinl_ok (zT4_15 (hh + 4))) (And.intro rfl ?_)))
    refine And.intro (zA_138 hS) (zrd (v := 0) ((p5bbbfr 138 12 (by omega) (by omega) (by omega) (by omega) (by omega)).trans g12) ?_)
    refine And.intro (zRb rfl) (zbf rfl ?_)
    refine And.intro (zA_138 hS) (zrd (v := ef) (w5.2.2.2.2.2.2.1.trans (congrArg (fun q : Nat => (q : Int)) hef)) ?_)
    refine And.intro (by omega) ⟨fun h11_51 => ?_, (fun h11_51 => False.elim (by omega))⟩
    refine And.intro (Or.inl rfl) ?_
    refine And.intro (zRb rfl) (zbt rfl ?_)
    refine And.intro (zA_138 hS) (Exists.intro _ (And.intro (zinl_ok (zT4_15 (hh + 4))) (And.intro rfl ?_)))
    refine And.intro (zA_138 hS) (zrd (v := 0) ((p5bbbfr 138 12 (by omega) (by omega) (by omega) (by omega) (by omega)).trans g12) ?_)
    refine And.intro (zRb rfl) (zbf rfl ?_)
    refine And.intro (zA_138 hS) (zrd (v := ef) (w5.2.2.2.2.2.2.1.trans (congrArg (fun q : Nat => (q : Int)) hef)) ?_)
    refine And.intro (by omega) ⟨fun h11_77 => ?_, (fun h11_77 => False.elim (by omega))⟩
    refine And.intro (Or.inl rfl) ?_
    refine And.intro (zRb rfl) (zbt rfl ?_)
    refine And.intro (zRb rfl) (zbf rfl ?_)
    refine And.intro (zA_138 hS) (zrdR (v := some k) hsc ?_)
    refine And.intro (zDX hD 0 rfl) ⟨_, sn_S_cl2.up (Nat.le_trans (show 1 ≤ 5 by decide) (Nat.le_add_left 5 hh)), ?_⟩
    refine ⟨k, n, e, (t1 + 1), t2, cl, fn, rfl, hS, hR, hD, (by first | exact hk | (clear hQ; grind [xu])), (zEt_fr hE (fun c j h => ((p5bbbfr c j (by omega) (by omega) (by omega) (by omega) (by omega)).trans rfl))), (zCl_fr hC (fun c j h => ((p5bbbfr c j (by omega) (by omega) (by omega) (by omega) (by omega)).trans rfl))), hcl2, (by omega), ?_⟩
    refine hQ _ _ _ _ (by omega) w5.2 (wkI_f hMi (Or.inl rfl) hgo hi hl w5.1) (fun x _ => rfl) (fun c j h0 h1 h2 h3 h4 h5 h6 h7 h8 h9 h10 h11 => ((p5bbbfr c j h6 h7 h8 h9 h10).trans rfl)) (fun c j h0 h1 h2 h3 h4 => rfl))
