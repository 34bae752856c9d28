/-! rfin -/
def T_K_fin : ZT := fun args I L R S Q => ∃ (c : Nat → Int) (n : Nat) (k : Nat) (l : Int) (fm : Int), args = [zvr 61, zvr 42, zvi l, zvi fm, zvr k] ∧ (zSh S) ∧ (zRs R) ∧ (zSt I L) ∧ (tOk c n) ∧ (∀ p : Nat, p < n → I 42 p = c p) ∧ (l = n) ∧ (0 ≤ fm ∧ fm ≤ 1) ∧ (zDy zT2 zF2 k R S) ∧ (43 ≤ k ∧ k ≤ 52) ∧ ∀ (v : Int) (I' : ZI) (L' : ZI) (R' : ZR), (v = I' 61 3) → ((fm = 0 → zKF k c n 1 I' L') ∧ (fm = 1 → zKF k c n 0 I' L')) → (I' k 1 = fm) → (R' 61 0 = some 42 ∧ R' 61 7 = some k) → (∀ c j : Nat, ¬ c = 61 → ¬ c = k → ¬ c = k + 1 → ¬ c = k + 2 → ¬ c = k + 3 → ¬ c = k + 5 → ¬ c = k + 6 → ¬ c = k + 7 → I' c j = I c j) → (∀ c j : Nat, ¬ c = k + 4 → L' c j = L c j) → (∀ c j : Nat, ¬ (c = 61 ∧ j = 0) → ¬ (c = 61 ∧ j = 7) → R' c j = R c j) → Q (some (zvi (v))) I' L' R' S
theorem sn_K_fin : ZSnd 7 9 3 T_K_fin := ZSnd.of (zT9_3 6) (by
  rintro args I L R S Q hz ⟨c, n, k, l, fm, rfl, hS, hR, hT, hc, x2, hl, hfm, hD, hk, hQ⟩
  have hn4 := hc.1
  have hk1 := hk.1
  have hk2 := hk.2
  refine And.intro rfl ?_
  refine And.intro (zA_61 hS) ?_
  have hR2 : zRs (xu R 61 0 (some 42)) := zRs_xu hR (by decide +kernel)
  refine And.intro (zN_42 hS) (zrdN (v := 4000) (zV_42 hS) ?_)
  refine And.intro ⟨(by omega), (zRb rfl)⟩ ?_
  refine And.intro (zA_61 hS) ⟨_, (zWi (by omega)), ?_⟩
  refine And.intro (zA_61 hS) ⟨_, (zWi (zRb rfl)), ?_⟩
  refine And.intro (zA_61 hS) ⟨_, (zWi (zRb rfl)), ?_⟩
  refine And.intro (zA_61 hS) ⟨_, (zWi (zRb rfl)), ?_⟩
  refine And.intro (zA_61 hS) ⟨_, (zWi (zRb rfl)), ?_⟩
  refine And.intro (by omega) ⟨fun h37 => ?_, fun h37 => ?_⟩
  · refine And.intro ⟨(zA_61 hS), (Or.inl rfl)⟩ ?_
    refine And.intro (zA_61 hS) ?_
    have hR51 : zRs (xu (xu R 61 0 (some 42)) 61 7 (some k)) := zRs_xu hR2 (by decide +kernel)
    refine And.intro (zA_61 hS) (zrdR (v := some k) rfl ?_)
    refine And.intro (zDX hD 0 rfl) (Exists.intro _ (And.intro (zinl_ok (zT2_2 5)) (And.intro rfl ?_)))
    refine And.intro (zDX hD 0 rfl) ⟨_, (zWi (by omega)), ?_⟩
    refine And.intro (zDX hD 0 rfl) ⟨_, (zWi (zRb rfl)), ?_⟩
    refine And.intro (zDX hD 0 rfl) ⟨_, (zWi (zRb rfl)), ?_⟩
    refine And.intro (zDX hD 0 rfl) ⟨_, (zWi (zRb rfl)), ?_⟩
    refine And.intro (zA_61 hS) (zrd (v := 0) (zxu (by omega) (zxu (by omega) (zxu (by omega) (zxu (by omega) rfl)))) ?_)
    refine And.intro (zRb rfl) (zbt rfl ?_)
    refine And.intro (zA_61 hS) ⟨_, sn_K_rns.up (by decide), ?_⟩
    refine ⟨c, n, k, rfl, hS, hR51, (zStf hT (fun c j h1 h2 => ⟨(zxu (by omega) (zxu (by omega) (zxu (by omega) (zxu (by omega) (zxu (by omega) (zxu (by omega) (zxu (by omega) (zxu (by omega) (zxu (by omega) (zxu (by omega) rfl)))))))))), rfl⟩)), rfl, ⟨(by repeat first | exact zxe.trans (by omega) | refine zxs (by omega) ?_ | refine zxu (by omega) ?_), fun p_ hp_ => (zxcj (by omega) (zxcj (by omega) (zxcj (by omega) (zxcj (by omega) (zxcj (by omega) (zxcj (by omega) (zxcj (by omega) (zxcj (by omega) (zxcj (by omega) (zxcj (by omega) rfl)))))))))).trans (x2 p_ hp_)⟩, (by first | exact hc | (clear hQ; grind [xu])), rfl, (zDy_xu (zDy_xu hD (by decide) (by show _ < _ ∨ _ + 9 ≤ _; omega)) (by decide) (by show _ < _ ∨ _ + 9 ≤ _; omega)), (by omega), (zxu (by omega) (zxu (by omega) (zxu (by omega) (zxu (by omega) (zxs (by decide) (zxs (by decide) (zxs (by decide) (zxs (by decide) rfl)))))))), (Eq.trans (b := ((-1) : Int)) (zxu (by omega) (zxu (by omega) (zxu (by omega) (zxu (by omega) (zxs (by decide) (zxs (by decide) (zxs (by decide) rfl))))))) (by omega)), (zxu (by omega) (zxu (by omega) (zxu (by omega) (zxu (by omega) rfl)))), (zxu (by omega) (zxu (by omega) (zxu (by omega) (zxu (by omega) (zxs (by decide) rfl))))), (zxs (by decide) (zxs (by decide) zxe)), (zxs (by decide) zxe), zxe, ?_⟩
    intro I77o L77o p77hF p77bfr p77bbfrL
    refine And.intro (zA_61 hS) (fun v81 e81 r81 => ?_)
    refine hQ _ _ _ _ (by first | exact e81 | exact e81.symm | omega) (by first | exact ⟨fun e => by exfalso; omega, fun _ => p77hF⟩ | exact ⟨fun _ => p70hF, fun e => by exfalso; omega⟩) ((p77bfr k 1 (by omega) (by omega) (by omega) (by omega) (by omega) (by omega) (by omega) (by omega) (by omega) (by omega) (by omega) (by omega)).trans (zxs (by decide) (zxs (by decide) (zxs (by decide) zxe)))) ⟨rfl, rfl⟩ (fun c j h0 h1 h2 h3 h4 h5 h6 h7 => ((p77bfr c j (fun w => h0 w.1) (fun w => h0 w.1) (fun w => h0 w.1) (fun w => h1 w.1) (fun w => h1 w.1) (fun w => h1 w.1) h2 h3 h4 h5 h6 h7).trans (zxu h1 (zxu h1 (zxu h1 (zxu h1 (zxu h0 (zxu h0 (zxu h0 (zxu h0 (zxu h0 (zxu h0 rfl)))))))))))) (fun c j h0 => ((p77bbfrL c j h0).trans rfl)) (fun c j h0 h1 => (zxcj h1 (zxcj h0 rfl)))
  · refine And.intro ⟨(zA_61 hS), (Or.inr rfl)⟩ ?_
    refine And.intro (zA_61 hS) ?_
    have hR51 : zRs (xu (xu R 61 0 (some 42)) 61 7 (some k)) := zRs_xu hR2 (by decide +kernel)
    refine And.intro (zA_61 hS) (zrdR (v := some k) rfl ?_)
    refine And.intro (zDX hD 0 rfl) (Exists.intro _ (And.intro (zinl_ok (zT2_2 5)) (And.intro rfl ?_)))
    refine And.intro (zDX hD 0 rfl) ⟨_, (zWi (by omega)), ?_⟩
    refine And.intro (zDX hD 0 rfl) ⟨_, (zWi (zRb rfl)), ?_⟩
    refine And.intro (zDX hD 0 rfl) ⟨_, (zWi (zRb rfl)), ?_⟩
    refine And.intro (zDX hD 0 rfl) ⟨_, (zWi (zRb rfl)), ?_⟩
    refine And.intro (zA_61 hS) (zrd (v := 1) (zxu (by omega) (zxu (by omega) (zxu (by omega) (zxu (by omega) rfl)))) ?_)
    refine And.intro (zRb rfl) (zbf rfl ?_)
    refine And.intro (zA_61 hS) ⟨_, sn_K_rls.up (by decide), ?_⟩
    refine ⟨c, n, k, rfl, hS, hR51, (zStf hT (fun c j h1 h2 => ⟨(zxu (by omega) (zxu (by omega) (zxu (by omega) (zxu (by omega) (zxu (by omega) (zxu (by omega) (zxu (by omega) (zxu (by omega) (zxu (by omega) (zxu (by omega) rfl)))))))))), rfl⟩)), rfl, ⟨(by repeat first | exact zxe.trans (by omega) | refine zxs (by omega) ?_ | refine zxu (by omega) ?_), fun p_ hp_ => (zxcj (by omega) (zxcj (by omega) (zxcj (by omega) (zxcj (by omega) (zxcj (by omega) (zxcj (by omega) (zxcj (by omega) (zxcj (by omega) (zxcj (by omega) (zxcj (by omega) rfl)))))))))).trans (x2 p_ hp_)⟩, (by first | exact hc | (clear hQ; grind [xu])), rfl, (zDy_xu (zDy_xu hD (by decide) (by show _ < _ ∨ _ + 9 ≤ _; omega)) (by decide) (by show _ < _ ∨ _ + 9 ≤ _; omega)), (by omega), (zxu (by omega) (zxu (by omega) (zxu (by omega) (zxu (by omega) (zxs (by decide) (zxs (by decide) (zxs (by decide) (zxs (by decide) rfl)))))))), (Eq.trans (b := ((-1) : Int)) (zxu (by omega) (zxu (by omega) (zxu (by omega) (zxu (by omega) (zxs (by decide) (zxs (by decide) (zxs (by decide) rfl))))))) (by omega)), (Eq.trans (b := (1 : Int)) (zxu (by omega) (zxu (by omega) (zxu (by omega) (zxu (by omega) rfl)))) (by omega)), (zxu (by omega) (zxu (by omega) (zxu (by omega) (zxu (by omega) (zxs (by decide) (zxs (by decide) rfl)))))), (zxu (by omega) (zxu (by omega) (zxu (by omega) (zxu (by omega) (zxs (by decide) rfl))))), (zxs (by decide) (zxs (by decide) zxe)), (zxs (by decide) zxe), zxe, ?_⟩
    intro I70o L70o p70hF p70bfr p70bbfrL
    refine And.intro (zA_61 hS) (fun v81 e81 r81 => ?_)
    refine hQ _ _ _ _ (by first | exact e81 | exact e81.symm | omega) (by first | exact ⟨fun e => by exfalso; omega, fun _ => p77hF⟩ | exact ⟨fun _ => p70hF, fun e => by exfalso; omega⟩) ((p70bfr k 1 (by omega) (by omega) (by omega) (by omega) (by omega) (by omega) (by omega) (by omega) (by omega) (by omega) (by omega) (by omega) (by omega)).trans (zxs (by decide) (zxs (by decide) (zxs (by decide) zxe)))) ⟨rfl, rfl⟩ (fun c j h0 h1 h2 h3 h4 h5 h6 h7 => ((p70bfr c j (fun w => h0 w.1) (fun w => h0 w.1) (fun w => h0 w.1) (fun w => h0 w.1) (fun w => h1 w.1) (fun w => h1 w.1) (fun w => h1 w.1) h2 h3 h4 h5 h6 h7).trans (zxu h1 (zxu h1 (zxu h1 (zxu h1 (zxu h0 (zxu h0 (zxu h0 (zxu h0 (zxu h0 (zxu h0 rfl)))))))))))) (fun c j h0 => ((p70bbfrL c j h0).trans rfl)) (fun c j h0 h1 => (zxcj h1 (zxcj h0 rfl))))
