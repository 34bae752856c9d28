/-! uh -/
def T_E_wc6 : ZT := fun args I L R S Q => ∃ (k : Nat) (n : Nat) (e : Nat → Int) (cl : Nat → Int) (fn : Nat → Int) (G : WkG) (M : WkM) (p : Nat) (i : Nat) (cc : Nat) (d : Nat) (s : WkS), args = [zvr 138, zvi p, zvi cc, zvi d] ∧ (zSh S) ∧ (zRs R) ∧ (zDy zT8 zF8 k R S) ∧ (k = 130 ∨ k = 134) ∧ (zEt k n e I) ∧ (R 138 0 = some k) ∧ (zCl k n cl fn I) ∧ (wfA n e cl fn M G) ∧ (cc ≤ 2) ∧ (zWk n e M (wkSp s) I L) ∧ (wkGo s) ∧ (s.2.1 < M.2.2.1) ∧ (p < n) ∧ (i ≤ M.2.2.2) ∧ (65 ≤ e p ∧ e p ≤ 90) ∧ (M.1 i = (18, (p : Int), e p - 65, [], [], 0)) ∧ (fn (e p - 65).toNat = -1) ∧ (M.2.1 (e p - 65).toNat = -1) ∧ ∀ (v : Int) (I' : ZI) (L' : ZI), (v = (p + 2 : Nat)) → (zWk n e M (wkF (wkSp s) 6 p 0) I' L') → (wkZ M d cc i s (i + 1) (wkF (wkSp s) 6 p 0)) → (∀ x : Nat, x < 72 * d → L' 141 x = L 141 x) → (∀ c j : Nat, ¬ (c = 138 ∧ j = 3) → ¬ (c = 138 ∧ j = 6) → ¬ (c = 138 ∧ j = 8) → ¬ (c = 138 ∧ j = 10) → ¬ (c = 138 ∧ j = 11) → ¬ (c = 138 ∧ j = 12) → ¬ (c = 138 ∧ j = 13) → ¬ (c = 138 ∧ j = 14) → ¬ (c = 138 ∧ j = 15) → ¬ (c = 138 ∧ j = 16) → ¬ (c = 138 ∧ j = 17) → ¬ c = 144 → I' c j = I c j) → (∀ c j : Nat, ¬ c = 139 → ¬ c = 140 → ¬ c = 141 → ¬ c = 142 → ¬ c = 143 → L' c j = L c j) → Q (some (zvi (v))) I' L' R S
theorem sn_E_wc6 : ZSnd 6 4 33 T_E_wc6 := ZSnd.of (zT4_33 5) (by
  rintro args I L R S Q hz ⟨k, n, e, cl, fn, G, M, p, i, cc, d, s, rfl, hS, hR, hD, hk, hE, hsc, hC, hA, hcc, hW, hgo, hl, hp, hi, hc, hMi, hfn, hu, hQ⟩
  have hk130 : 130 ≤ k := by omega
  have hk134 : k ≤ 134 := by omega
  obtain ⟨hE1, hE2, hE3⟩ := id hE
  have hn4 := hE2.1
  obtain ⟨g11, g12, g13, ⟨g3, g3b⟩, g6, g8, g10⟩ := zWk_n hW (wkGo_sp hgo)
  have g3c : s.1.1.2.1 ≤ 12 := g3b
  refine And.intro rfl ?_
  refine And.intro (zA_138 hS) (zrdR (v := some k) hsc ?_)
  refine And.intro (zA_138 hS) (zrdR (v := some k) hsc ?_)
  refine And.intro (zDX hD 0 rfl) ⟨_, sn_S_let.up (by decide), ?_⟩
  refine ⟨_, _, _, (p : Int), p, rfl, hS, hR, hD, (by first | exact hk | (clear hQ; grind [xu])), (by first | exact (zEt_fr hE (fun c j h => rfl)) | (clear hQ; grind [xu])), (by omega), ?_⟩
  intro v9o p9hv p9bhv2
  refine And.intro (zDX hD 0 rfl) (Exists.intro _ (And.intro (zinl_ok (zT8_4 4)) (And.intro rfl ?_)))
  refine Exists.intro _ (And.intro (zinl_ok (zT8_7 3)) (And.intro rfl ?_))
  refine And.intro ⟨(by omega), (zRb rfl)⟩ ⟨(fun h3_12_1 => False.elim (by omega)), fun h3_12_1 => ?_⟩
  refine And.intro ⟨(by omega), (zRb rfl)⟩ ⟨(fun h9_12_1 => False.elim (by omega)), fun h9_12_1 => ?_⟩
  refine And.intro (Or.inr rfl) ?_
  refine And.intro (zRb rfl) (zbf rfl ?_)
  refine And.intro (zDX hD 0 rfl) (zrdR (v := some (k + 3)) (zDR hD 2 rfl) ?_)
  refine And.intro (zDP hD 3 rfl rfl (by omega) (by omega)) (fun v15_12 e15_12 r15_12 => ?_)
  have f15_12 : v15_12 = -1 := (e15_12.trans ((congrArg (I (k + 3)) (show _ = (e p - 65).toNat by omega)).trans ((hC.2 (by omega) (e p - 65).toNat (by omega)).trans hfn)))
  refine And.intro ⟨r15_12, (zRb rfl)⟩ ⟨(fun h20 => False.elim (by omega)), fun h20 => ?_⟩
  refine And.intro (zA_138 hS) (Exists.intro _ (And.intro (zinl_ok (zT4_12 4)) (And.intro rfl ?_)))
  refine And.intro (zA_138 hS) ⟨_, (zWi (zRb rfl)), ?_⟩
  refine And.intro (zA_138 hS) ⟨_, (zWi (by omega)), ?_⟩
  refine And.intro (zA_138 hS) ⟨_, (zWi (zRb rfl)), ?_⟩
  refine hQ _ _ _ (by clear hQ; grind [xu]) (zWk_F hW (zEv_fr hW.1 (fun c j h => (zxcj (by omega) (zxcj (by omega) (zxcj (by omega) rfl)))) (fun _ _ _ => rfl)) (fun c j h => (zxcj (by omega) (zxcj (by omega) (zxcj (by omega) rfl)))) (fun _ => rfl) (show _ = (6 : Int) from rfl) (show _ = (p : Int) from rfl) (show _ = (0 : Int) from rfl)) (wkC_6 hMi hgo ⟨by omega, by omega⟩ hi hl hu) (fun _ _ => rfl) (fun c j h0 h1 h2 h3 h4 h5 h6 h7 h8 h9 h10 h11 => (zxcj h8 (zxcj h7 (zxcj h6 rfl)))) (fun c j h0 h1 h2 h3 h4 => rfl))
def T_E_wc5 : ZT := fun args I L R S Q => ∃ (k : Nat) (n : Nat) (e : Nat → Int) (cl : Nat → Int) (fn : Nat → Int) (G : WkG) (M : WkM) (p : Nat) (i : Nat) (cc : Nat) (d : Nat) (s : WkS) (qf : Nat) (kf : Nat), args = [zvr 138, zvi p, zvi cc, zvi d] ∧ (zSh S) ∧ (zRs R) ∧ (zDy zT8 zF8 k R S) ∧ (k = 130 ∨ k = 134) ∧ (zEt k n e I) ∧ (R 138 0 = some k) ∧ (zCl k n cl fn I) ∧ (wfA n e cl fn M G) ∧ (cc ≤ 2) ∧ (zWk n e M (wkSp s) I L) ∧ (wkGo s) ∧ (s.2.1 < M.2.2.1) ∧ (p < n) ∧ (i ≤ M.2.2.2) ∧ (65 ≤ e p ∧ e p ≤ 90) ∧ (M.1 i = (18, (p : Int), e p - 65, [], [], 0)) ∧ (fn (e p - 65).toNat = (qf : Int)) ∧ (M.2.1 (e p - 65).toNat = (kf : Int)) ∧ (cc = 2) ∧ ∀ (v : Int) (I' : ZI) (L' : ZI), (v = (p + 2 : Nat)) → (zWk n e M (wkF (wkSp s) 5 p 0) I' L') → (wkZ M d cc i s (i + 1) (wkF (wkSp s) 5 p 0)) → (∀ x : Nat, x < 72 * d → L' 141 x = L 141 x) → (∀ c j : Nat, ¬ (c = 138 ∧ j = 3) → ¬ (c = 138 ∧ j = 6) → ¬ (c = 138 ∧ j = 8) → ¬ (c = 138 ∧ j = 10) → ¬ (c = 138 ∧ j = 11) → ¬ (c = 138 ∧ j = 12) → ¬ (c = 138 ∧ j = 13) → ¬ (c = 138 ∧ j = 14) → ¬ (c = 138 ∧ j = 15) → ¬ (c = 138 ∧ j = 16) → ¬ (c = 138 ∧ j = 17) → ¬ c = 144 → I' c j = I c j) → (∀ c j : Nat, ¬ c = 139 → ¬ c = 140 → ¬ c = 141 → ¬ c = 142 → ¬ c = 143 → L' c j = L c j) → Q (some (zvi (v))) I' L' R S
theorem sn_E_wc5 : ZSnd 6 4 33 T_E_wc5 := ZSnd.of (zT4_33 5) (by
  rintro args I L R S Q hz ⟨k, n, e, cl, fn, G, M, p, i, cc, d, s, qf, kf, rfl, hS, hR, hD, hk, hE, hsc, hC, hA, hcc, hW, hgo, hl, hp, hi, hc, hMi, hfn, hu, hcc2, hQ⟩
  have hk130 : 130 ≤ k := by omega
  have hk134 : k ≤ 134 := by omega
  obtain ⟨hE1, hE2, hE3⟩ := id hE
  have hn4 := hE2.1
  obtain ⟨g11, g12, g13, ⟨g3, g3b⟩, g6, g8, g10⟩ := zWk_n hW (wkGo_sp hgo)
  have g3c : s.1.1.2.1 ≤ 12 := g3b
  refine And.intro rfl ?_
  refine And.intro (zA_138 hS) (zrdR (v := some k) hsc ?_)
  refine And.intro (zA_138 hS) (zrdR (v := some k) hsc ?_)
  refine And.intro (zDX hD 0 rfl) ⟨_, sn_S_let.up (by decide), ?_⟩
  refine ⟨_, _, _, (p : Int), p, rfl, hS, hR, hD, (by first | exact hk | (clear hQ; grind [xu])), (by first | exact (zEt_fr hE (fun c j h => rfl)) | (clear hQ; grind [xu])), (by omega), ?_⟩
  intro v9o p9hv p9bhv2
  refine And.intro (zDX hD 0 rfl) (Exists.intro _ (And.intro (zinl_ok (zT8_4 4)) (And.intro rfl ?_)))
  refine Exists.intro _ (And.intro (zinl_ok (zT8_7 3)) (And.intro rfl ?_))
  refine And.intro ⟨(by omega), (zRb rfl)⟩ ⟨(fun h3_12_1 => False.elim (by omega)), fun h3_12_1 => ?_⟩
  refine And.intro ⟨(by omega), (zRb rfl)⟩ ⟨(fun h9_12_1 => False.elim (by omega)), fun h9_12_1 => ?_⟩
  refine And.intro (Or.inr rfl) ?_
  refine And.intro (zRb rfl) (zbf rfl ?_)
  refine And.intro (zDX hD 0 rfl) (zrdR (v := some (k + 3)) (zDR hD 2 rfl) ?_)
  refine And.intro (zDP hD 3 rfl rfl (by omega) (by omega)) (fun v15_12 e15_12 r15_12 => ?_)
  have f15_12 : v15_12 = qf := (e15_12.trans ((congrArg (I (k + 3)) (show _ = (e p - 65).toNat by omega)).trans ((hC.2 (by omega) (e p - 65).toNat (by omega)).trans hfn)))
  refine And.intro ⟨r15_12, (zRb rfl)⟩ ⟨fun h20 => ?_, (fun h20 => False.elim (by omega))⟩
  refine And.intro ⟨(by omega), (zRb rfl)⟩ ⟨(fun h36 => False.elim (by omega)), fun h36 => ?_⟩
  refine And.intro (zA_138 hS) (Exists.intro _ (And.intro (zinl_ok (zT4_12 4)) (And.intro rfl ?_)))
  refine And.intro (zA_138 hS) ⟨_, (zWi (zRb rfl)), ?_⟩
  refine And.intro (zA_138 hS) ⟨_, (zWi (by omega)), ?_⟩
  refine And.intro (zA_138 hS) ⟨_, (zWi (zRb rfl)), ?_⟩
  refine hQ _ _ _ (by clear hQ; grind [xu]) (zWk_F hW (zEv_fr hW.1 (fun c j h => (zxcj (by omega) (zxcj (by omega) (zxcj (by omega) rfl)))) (fun _ _ _ => rfl)) (fun c j h => (zxcj (by omega) (zxcj (by omega) (zxcj (by omega) rfl)))) (fun _ => rfl) (show _ = (5 : Int) from rfl) (show _ = (p : Int) from rfl) (show _ = (0 : Int) from rfl)) (wkC_5 hMi hgo ⟨by omega, by omega⟩ hi hl hu hcc2) (fun _ _ => rfl) (fun c j h0 h1 h2 h3 h4 h5 h6 h7 h8 h9 h10 h11 => (zxcj h8 (zxcj h7 (zxcj h6 rfl)))) (fun c j h0 h1 h2 h3 h4 => rfl))
def T_E_wcB (D : Nat) : ZT := fun args I L R S Q => ∃ (k : Nat) (n : Nat) (e : Nat → Int) (cl : Nat → Int) (fn : Nat → Int) (G : WkG) (M : WkM) (p : Nat) (i : Nat) (cc : Nat) (d : Nat) (s : WkS) (qf : Nat) (kf : Nat) (t1 : Nat) (j1 : Nat), args = [zvr 138, zvi p, zvi cc, zvi d] ∧ (zSh S) ∧ (zRs R) ∧ (zDy zT8 zF8 k R S) ∧ (k = 130 ∨ k = 134) ∧ (zEt k n e I) ∧ (R 138 0 = some k) ∧ (zCl k n cl fn I) ∧ (wfA n e cl fn M G) ∧ (cc ≤ 2) ∧ (zWk n e M (wkSp s) I L) ∧ (wkGo s) ∧ (s.2.1 < M.2.2.1) ∧ (p < n) ∧ (i ≤ M.2.2.2) ∧ (65 ≤ e p ∧ e p ≤ 90) ∧ (M.1 i = (18, (p : Int), e p - 65, [], [], 0)) ∧ (fn (e p - 65).toNat = (qf : Int)) ∧ (M.2.1 (e p - 65).toNat = (kf : Int)) ∧ (cc < 2) ∧ (cl qf = (t1 : Int)) ∧ (qf < t1 ∧ t1 < n) ∧ (G 1 (qf + 1) kf t1 j1) ∧ ((M.1 j1).1 = 19) ∧ (j1 ≤ M.2.2.2) ∧ (d + 1 + D = 10) ∧ (d + 4 ≤ 6 + 2 * cc) ∧ ∀ (v : Int) (s' : WkS) (I' : ZI) (L' : ZI), (v = (p + 2 : Nat)) → (zWk n e M s' I' L') → (wkZ M d cc i s (i + 1) s') → (∀ x : Nat, x < 72 * d → L' 141 x = L 141 x) → (∀ c j : Nat, ¬ (c = 138 ∧ j = 3) → ¬ (c = 138 ∧ j = 6) → ¬ (c = 138 ∧ j = 8) → ¬ (c = 138 ∧ j = 10) → ¬ (c = 138 ∧ j = 11) → ¬ (c = 138 ∧ j = 12) → ¬ (c = 138 ∧ j = 13) → ¬ (c = 138 ∧ j = 14) → ¬ (c = 138 ∧ j = 15) → ¬ (c = 138 ∧ j = 16) → ¬ (c = 138 ∧ j = 17) → ¬ c = 144 → I' c j = I c j) → (∀ c j : Nat, ¬ c = 139 → ¬ c = 140 → ¬ c = 141 → ¬ c = 142 → ¬ c = 143 → L' c j = L c j) → Q (some (zvi (v))) I' L' R S
theorem sn_E_wcB {hh D : Nat} (h29 : 29 ≤ hh) (hB : ZSnd hh 4 30 (T_E_wlk D)) : ZSnd (hh + 6) 4 33 (T_E_wcB D) := ZSnd.of (zT4_33 (hh + 5)) (by
  rintro args I L R S Q hz ⟨k, n, e, cl, fn, G, M, p, i, cc, d, s, qf, kf, t1, j1, rfl, hS, hR, hD, hk, hE, hsc, hC, hA, hcc, hW, hgo, hl, hp, hi, hc, hMi, hfn, hu, hcc2, hcl, hq, hG, hr9, hjt, hd, hr, hQ⟩
  have hk130 : 130 ≤ k := by omega
  have hk134 : k ≤ 134 := by omega
  obtain ⟨hE1, hE2, hE3⟩ := id hE
  have hn4 := hE2.1
  obtain ⟨g11, g12, g13, ⟨g3, g3b⟩, g6, g8, g10⟩ := zWk_n hW (wkGo_sp hgo)
  have g3c : s.1.1.2.1 ≤ 12 := g3b
  refine And.intro rfl ?_
  refine And.intro (zA_138 hS) (zrdR (v := some k) hsc ?_)
  refine And.intro (zA_138 hS) (zrdR (v := some k) hsc ?_)
  refine And.intro (zDX hD 0 rfl) ⟨_, sn_S_let.up (Nat.le_trans (show 1 ≤ 5 by decide) (Nat.le_add_left 5 hh)), ?_⟩
  refine ⟨_, _, _, (p : Int), p, rfl, hS, hR, hD, (by first | exact hk | (clear hQ; grind [xu])), (by first | exact (zEt_fr hE (fun c j h => rfl)) | (clear hQ; grind [xu])), (by omega), ?_⟩
  intro v9o p9hv p9bhv2
  refine And.intro (zDX hD 0 rfl) (Exists.intro _ (And.intro (zinl_ok (zT8_4 (hh + 4))) (And.intro rfl ?_)))
  refine Exists.intro _ (And.intro (zinl_ok (zT8_7 (hh + 3))) (And.intro rfl ?_))
  refine And.intro ⟨(by omega), (zRb rfl)⟩ ⟨(fun h3_12_1 => False.elim (by omega)), fun h3_12_1 => ?_⟩
  refine And.intro ⟨(by omega), (zRb rfl)⟩ ⟨(fun h9_12_1 => False.elim (by omega)), fun h9_12_1 => ?_⟩
  refine And.intro (Or.inr rfl) ?_
  refine And.intro (zRb rfl) (zbf rfl ?_)
  refine And.intro (zDX hD 0 rfl) (zrdR (v := some (k + 3)) (zDR hD 2 rfl) ?_)
  refine And.intro (zDP hD 3 rfl rfl (by omega) (by omega)) (fun v15_12 e15_12 r15_12 => ?_)
  have f15_12 : v15_12 = qf := (e15_12.trans ((congrArg (I (k + 3)) (show _ = (e p - 65).toNat by omega)).trans ((hC.2 (by omega) (e p - 65).toNat (by omega)).trans hfn)))
  refine And.intro ⟨r15_12, (zRb rfl)⟩ ⟨fun h20 => ?_, (fun h20 => False.elim (by omega))⟩
  refine And.intro ⟨(by omega), (zRb rfl)⟩ ⟨fun h36 => ?_, (fun h36 => False.elim (by omega))⟩
  refine And.intro (zA_138 hS) ⟨_, (sn_E_wbl h29 hB).up (Nat.add_le_add_left (show 3 ≤ 5 by decide) hh), ?_⟩
  refine ⟨k, n, e, cl, fn, G, M, 1, qf, kf, t1, j1, (cc + 1), d, (wkSp s), (show [zvr 138, zvi v15_12, zvi ((cc : Int) + 1), zvi (d : Int)] = _ from by rw [f15_12]; rfl), hS, hR, hD, (by first | exact hk | (clear hQ; grind [xu])), (zEt_fr hE (fun c j h => rfl)), hsc, (zCl_fr hC (fun c j h => rfl)), hA, (by omega), hW, (wkGo_sp hgo), hd, (by omega), hcl, hq, hG, ?_⟩
  intro s56o I56o L56o p56hW p56bhZ p56bbhK p56bbbfr p56bbbbfrL
  refine hQ _ _ _ _ (by clear hQ; grind [xu]) p56hW (wkC_b hMi hgo ⟨by omega, by omega⟩ hi hl hu hcc2 p56bhZ hr9 hjt) (fun x hx => p56bbhK x (by omega)) (fun c j h0 h1 h2 h3 h4 h5 h6 h7 h8 h9 h10 h11 => ((p56bbbfr c j h0 h1 h2 h3 h4 h5 h6 h7 h8 h9 h10 h11).trans rfl)) (fun c j h0 h1 h2 h3 h4 => ((p56bbbbfrL c j h0 h1 h2 h3 h4).trans rfl)))
def T_E_wac (D : Nat) : ZT := fun args I L R S Q => ∃ (k : Nat) (n : Nat) (e : Nat → Int) (cl : Nat → Int) (fn : Nat → Int) (G : WkG) (M : WkM) (r : Nat) (p : Nat) (i : Nat) (t1 : Nat) (j1 : Nat) (cc : Nat) (d : Nat) (s : WkS), args = [zvr 138, zvi p, zvi cc, zvi d] ∧ (zSh S) ∧ (zRs R) ∧ (zDy zT8 zF8 k R S) ∧ (k = 130 ∨ k = 134) ∧ (zEt k n e I) ∧ (R 138 0 = some k) ∧ (zCl k n cl fn I) ∧ (wfA n e cl fn M G) ∧ (cc ≤ 2) ∧ (zWk n e M (wkSp s) I L) ∧ (wkGo s) ∧ (s.2.1 < M.2.2.1) ∧ (p < n) ∧ (i ≤ M.2.2.2) ∧ (d + 1 + D = 10) ∧ (d + 1 + r + 4 ≤ 6 + 2 * cc) ∧ (j1 ≤ M.2.2.2) ∧ (cl p = (t1 : Int)) ∧ (p < t1 ∧ t1 < n) ∧ (G r (p + 1) (i + 1) t1 j1) ∧ ((M.1 i).1 = 7) ∧ ((M.1 j1).1 = 8) ∧ ∀ (v : Int) (s' : WkS) (I' : ZI) (L' : ZI), (v = t1 + 1) → (zWk n e M s' I' L') → (wkZ M d cc i s (j1 + 1) s') → (∀ x : Nat, x < 72 * d → L' 141 x = L 141 x) → (∀ c j : Nat, ¬ (c = 138 ∧ j = 3) → ¬ (c = 138 ∧ j = 6) → ¬ (c = 138 ∧ j = 8) → ¬ (c = 138 ∧ j = 10) → ¬ (c = 138 ∧ j = 11) → ¬ (c = 138 ∧ j = 12) → ¬ (c = 138 ∧ j = 13) → ¬ (c = 138 ∧ j = 14) → ¬ (c = 138 ∧ j = 15) → ¬ (c = 138 ∧ j = 16) → ¬ (c = 138 ∧ j = 17) → ¬ c = 144 → I' c j = I c j) → (∀ c j : Nat, ¬ c = 139 → ¬ c = 140 → ¬ c = 141 → ¬ c = 142 → ¬ c = 143 → L' c j = L c j) → Q (some (zvi (v))) I' L' R S
theorem sn_E_wac {hh D : Nat} (h29 : 29 ≤ hh) (hB : ZSnd hh 4 30 (T_E_wlk D)) : ZSnd (hh + 6) 4 31 (T_E_wac D) := ZSnd.of (zT4_31 (hh + 5)) (by
  rintro args I L R S Q hz ⟨k, n, e, cl, fn, G, M, r, p, i, t1, j1, cc, d, s, rfl, hS, hR, hD, hk, hE, hsc, hC, hA, hcc, hW, hgo, hl, hp, hi, hd, hr, hjt, hcl, hq, hG, hk7, hk8, hQ⟩
  have hk130 : 130 ≤ k := by omega
  have hk134 : k ≤ 134 := by omega
  obtain ⟨hE1, hE2, hE3⟩ := id hE
  have hn4 := hE2.1
  obtain ⟨g11, g12, g13, ⟨g3, g3b⟩, g6, g8, g10⟩ := zWk_n hW (wkGo_sp hgo)
  have g3c : s.1.1.2.1 ≤ 12 := g3b
  refine And.intro rfl ?_
  refine And.intro (zA_138 hS) (zrd (v := (s.1.1.2.1)) g3 ?_)
  refine And.intro (zA_138 hS) (zrdR (v := some 140) (zR_138_2 hR) ?_)
  refine And.intro (zA_138 hS) (zrdR (v := some 141) (zR_138_4 hR) ?_)
  refine And.intro ⟨⟨(zx0 rfl), (zS_141 hS).2, (zS_140 hS).2, by rw [(zS_140 hS).1, (zS_141 hS).1], by rw [(zS_141 hS).1]; first | exact Or.inl rfl | exact Or.inr rfl⟩, ⟨by omega, by omega, by omega, by rw [(zS_140 hS).1]; show _ ≤ ((_ : Nat) : Int); omega, by rw [(zS_141 hS).1]; show _ ≤ ((_ : Nat) : Int); omega⟩, by omega, by omega⟩ ?_
  refine And.intro (fun h => absurd h (by rw [(zS_141 hS).1]; decide)) (fun _ => ?_)
  refine And.intro (zA_138 hS) ⟨_, (sn_E_wbl h29 hB).up (Nat.add_le_add_left (show 3 ≤ 5 by decide) hh), ?_⟩
  refine ⟨k, n, e, cl, fn, G, M, r, p, (i + 1), t1, j1, cc, d, (wkSp s), rfl, hS, hR, hD, (by first | exact hk | (clear hQ; grind [xu])), (zEt_fr hE (fun c j h => rfl)), hsc, (zCl_fr hC (fun c j h => rfl)), hA, (by omega), (zWk_fr hW (fun c j h => rfl) (fun c j h => (zcpj (by omega) rfl))), (wkGo_sp hgo), hd, hr, hcl, hq, hG, ?_⟩
  intro s35o I35o L35o p35hW p35bhZ p35bbhK p35bbbfr p35bbbbfrL
  refine And.intro (zA_138 hS) (fun v41 e41 r41 => ?_)
  refine And.intro r41 ⟨fun h44 => ?_, fun h44 => ?_⟩
  · refine hQ _ _ _ _ (by omega) (zWk_acn (s := wkSp s) p35hW (by omega)) (wkZ_act hgo hk7 hi (by omega) hl p35bhZ hk8 hjt) (fun x hx => (p35bbhK x (by omega)).trans (zcpj (by omega) rfl)) (fun c j h0 h1 h2 h3 h4 h5 h6 h7 h8 h9 h10 h11 => ((p35bbbfr c j h0 h1 h2 h3 h4 h5 h6 h7 h8 h9 h10 h11).trans rfl)) (fun c j h0 h1 h2 h3 h4 => ((p35bbbbfrL c j h0 h1 h2 h3 h4).trans (zcpu h2 rfl)))
  · refine And.intro (zA_138 hS) (fun v48 e48 r48 => ?_)
    refine And.intro r48 ⟨fun h51 => ?_, fun h51 => ?_⟩
    · refine hQ _ _ _ _ (by omega) (zWk_acn (s := wkSp s) p35hW (by omega)) (wkZ_act hgo hk7 hi (by omega) hl p35bhZ hk8 hjt) (fun x hx => (p35bbhK x (by omega)).trans (zcpj (by omega) rfl)) (fun c j h0 h1 h2 h3 h4 h5 h6 h7 h8 h9 h10 h11 => ((p35bbbfr c j h0 h1 h2 h3 h4 h5 h6 h7 h8 h9 h10 h11).trans rfl)) (fun c j h0 h1 h2 h3 h4 => ((p35bbbbfrL c j h0 h1 h2 h3 h4).trans (zcpu h2 rfl)))
    · have t51 : True := True.intro
      refine And.intro (zA_138 hS) ⟨_, (zWi (by omega)), ?_⟩
      refine And.intro (zA_138 hS) (zrdR (v := some 141) (zR_138_4 hR) ?_)
      refine And.intro (zA_138 hS) (zrdR (v := some 140) (zR_138_2 hR) ?_)
      refine And.intro ⟨⟨(zx0 rfl), (zS_140 hS).2, (zS_141 hS).2, by rw [(zS_141 hS).1, (zS_140 hS).1], by rw [(zS_140 hS).1]; first | exact Or.inl rfl | exact Or.inr rfl⟩, ⟨by omega, by omega, by omega, by rw [(zS_141 hS).1]; show _ ≤ ((_ : Nat) : Int); omega, by rw [(zS_140 hS).1]; show _ ≤ ((_ : Nat) : Int); omega⟩, by omega, by omega⟩ ?_
      refine And.intro (fun h => absurd h (by rw [(zS_140 hS).1]; decide)) (fun _ => ?_)
      refine hQ _ _ _ _ (by omega) (zWk_acy (s := wkSp s) p35hW (by omega) (by omega) (fun x hx => (zcpi (v := L35o 141 (72 * d + x)) (by omega) (by omega) (congrArg (L35o 141) (by omega))).trans ((p35bbhK _ (by omega)).trans ((zcpi (v := L 140 x) (by omega) (by omega) (congrArg (L 140) (by omega))).trans (hW.1.2.2.1 x hx)))) zxe (by omega) (fun c j h => zxcj h rfl) (fun c j h => zcpu h rfl)) (wkZ_act hgo hk7 hi (by omega) hl p35bhZ hk8 hjt) (fun x hx => (zcpu (by decide) (p35bbhK x (by omega))).trans (zcpj (by omega) rfl)) (fun c j h0 h1 h2 h3 h4 h5 h6 h7 h8 h9 h10 h11 => (zxcj h0 ((p35bbbfr c j h0 h1 h2 h3 h4 h5 h6 h7 h8 h9 h10 h11).trans rfl))) (fun c j h0 h1 h2 h3 h4 => (zcpu h1 ((p35bbbbfrL c j h0 h1 h2 h3 h4).trans (zcpu h2 rfl)))))
def T_E_wcs (D : Nat) : ZT := fun args I L R S Q => ∃ (k : Nat) (n : Nat) (e : Nat → Int) (cl : Nat → Int) (fn : Nat → Int) (G : WkG) (M : WkM) (r : Nat) (p : Nat) (i : Nat) (t1 : Nat) (j1 : Nat) (cc : Nat) (d : Nat) (s : WkS) (t2 : Nat) (j2 : Nat), args = [zvr 138, zvi p, zvi cc, zvi d] ∧ (zSh S) ∧ (zRs R) ∧ (zDy zT8 zF8 k R S) ∧ (k = 130 ∨ k = 134) ∧ (zEt k n e I) ∧ (R 138 0 = some k) ∧ (zCl k n cl fn I) ∧ (wfA n e cl fn M G) ∧ (cc ≤ 2) ∧ (zWk n e M (wkSp s) I L) ∧ (wkGo s) ∧ (s.2.1 < M.2.2.1) ∧ (p < n) ∧ (i ≤ M.2.2.2) ∧ (d + 1 + D = 10) ∧ (d + 1 + r + 4 ≤ 6 + 2 * cc) ∧ (j1 ≤ M.2.2.2) ∧ (cl (p + 1) = (t1 : Int)) ∧ (p + 1 < t1 ∧ t1 < n) ∧ (G r (p + 2) (i + 1) t1 j1) ∧ (cl (t1 + 1) = (t2 : Int)) ∧ (t1 + 1 < t2 ∧ t2 < n) ∧ (G r (t1 + 2) (j1 + 1) t2 j2) ∧ ((M.1 i).1 = 9 ∧ (M.1 i).2.2.2.2.2 = (j1 : Int)) ∧ ((M.1 j1).1 = 10) ∧ ((M.1 j2).1 = 11) ∧ (j2 ≤ M.2.2.2) ∧ ∀ (v : Int) (s' : WkS) (I' : ZI) (L' : ZI), (v = t2 + 1) → (zWk n e M s' I' L') → (wkZ M d cc i s (j2 + 1) s') → (∀ x : Nat, x < 72 * d → L' 141 x = L 141 x) → (∀ c j : Nat, ¬ (c = 138 ∧ j = 3) → ¬ (c = 138 ∧ j = 6) → ¬ (c = 138 ∧ j = 8) → ¬ (c = 138 ∧ j = 10) → ¬ (c = 138 ∧ j = 11) → ¬ (c = 138 ∧ j = 12) → ¬ (c = 138 ∧ j = 13) → ¬ (c = 138 ∧ j = 14) → ¬ (c = 138 ∧ j = 15) → ¬ (c = 138 ∧ j = 16) → ¬ (c = 138 ∧ j = 17) → ¬ c = 144 → I' c j = I c j) → (∀ c j : Nat, ¬ c = 139 → ¬ c = 140 → ¬ c = 141 → ¬ c = 142 → ¬ c = 143 → L' c j = L c j) → Q (some (zvi (v))) I' L' R S
theorem sn_E_wcs {hh D : Nat} (h29 : 29 ≤ hh) (hB : ZSnd hh 4 30 (T_E_wlk D)) : ZSnd (hh + 6) 4 35 (T_E_wcs D) := ZSnd.of (zT4_35 (hh + 5)) (by
  rintro args I L R S Q hz ⟨k, n, e, cl, fn, G, M, r, p, i, t1, j1, cc, d, s, t2, j2, rfl, hS, hR, hD, hk, hE, hsc, hC, hA, hcc, hW, hgo, hl, hp, hi, hd, hr, hjt, hcl, hq, hG, hcl2, hq2, hG2, hk9, hk10, hk11, hjt2, hQ⟩
  have hk130 : 130 ≤ k := by omega
  have hk134 : k ≤ 134 := by omega
  obtain ⟨hE1, hE2, hE3⟩ := id hE
  have hn4 := hE2.1
  obtain ⟨g11, g12, g13, ⟨g3, g3b⟩, g6, g8, g10⟩ := zWk_n hW (wkGo_sp hgo)
  have g3c : s.1.1.2.1 ≤ 12 := g3b
  refine And.intro rfl ?_
  refine And.intro (zA_138 hS) ⟨_, (sn_E_wbl h29 hB).up (Nat.add_le_add_left (show 3 ≤ 5 by decide) hh), ?_⟩
  refine ⟨k, n, e, cl, fn, G, M, r, (p + 1), (i + 1), t1, j1, cc, d, (wkSp s), rfl, hS, hR, hD, (by first | exact hk | (clear hQ; grind [xu])), (zEt_fr hE (fun c j h => rfl)), hsc, (zCl_fr hC (fun c j h => rfl)), hA, (by omega), hW, (wkGo_sp hgo), hd, hr, hcl, hq, hG, ?_⟩
  intro s6o I6o L6o p6hW p6bhZ p6bbhK p6bbbfr p6bbbbfrL
  refine And.intro (zA_138 hS) (fun v12 e12 r12 => ?_)
  refine And.intro (zA_138 hS) (fun v18 e18 r18 => ?_)
  refine And.intro (zA_138 hS) (fun v24 e24 r24 => ?_)
  refine And.intro (zA_138 hS) (Exists.intro _ (And.intro (zinl_ok (zT4_5 (hh + 4))) (And.intro rfl ?_)))
  refine And.intro (zA_138 hS) ⟨_, (zWi (zRb rfl)), ?_⟩
  refine And.intro (zA_138 hS) ⟨_, (zWi (zRb rfl)), ?_⟩
  refine And.intro (zA_138 hS) ⟨_, (zWi (zRb rfl)), ?_⟩
  refine And.intro (zA_138 hS) (fun v34 e34 r34 => ?_)
  have f34 : I6o 138 12 = v34 := (e34.trans (zxs (by decide) (zxs (by decide) (zxs (by decide) rfl)))).symm
  refine And.intro r34 ⟨fun h37 => ?_, fun h37 => ?_⟩
  · refine And.intro (zA_138 hS) (zrd (v := 0) rfl ?_)
    refine And.intro (zRb rfl) (zbf rfl ?_)
    refine And.intro (zA_138 hS) (Exists.intro _ (And.intro (zinl_ok (zT4_12 (hh + 4))) (And.intro rfl ?_)))
    refine And.intro (zA_138 hS) ⟨_, (zWi r12), ?_⟩
    refine And.intro (zA_138 hS) ⟨_, (zWi r18), ?_⟩
    refine And.intro (zA_138 hS) ⟨_, (zWi r24), ?_⟩
    refine And.intro (zA_138 hS) (zrdR (v := some k) hsc ?_)
    refine And.intro (zDX hD 0 rfl) ⟨_, sn_S_cl2.up (Nat.le_trans (show 1 ≤ 5 by decide) (Nat.le_add_left 5 hh)), ?_⟩
    refine ⟨k, n, e, (t1 + 1), t2, cl, fn, rfl, hS, hR, hD, (by first | exact hk | (clear hQ; grind [xu])), (zEt_fr hE (fun c j h => (zxcj (by omega) (zxcj (by omega) (zxcj (by omega) (zxcj (by omega) (zxcj (by omega) (zxcj (by omega) ((p6bbbfr c j (by omega) (by omega) (by omega) (by omega) (by omega) (by omega) (by omega) (by omega) (by omega) (by omega) (by omega) (by omega)).trans rfl))))))))), (zCl_fr hC (fun c j h => (zxcj (by omega) (zxcj (by omega) (zxcj (by omega) (zxcj (by omega) (zxcj (by omega) (zxcj (by omega) ((p6bbbfr c j (by omega) (by omega) (by omega) (by omega) (by omega) (by omega) (by omega) (by omega) (by omega) (by omega) (by omega) (by omega)).trans rfl))))))))), hcl2, (by omega), ?_⟩
    refine hQ _ _ _ _ (by omega) (zWk_tr2 p6hW (fun c j h => (zxcj (by omega) (zxcj (by omega) (zxcj (by omega) (zxcj (by omega) (zxcj (by omega) (zxcj (by omega) rfl))))))) ((show _ = (v12 : Int) from rfl).trans (by omega)) ((show _ = (v18 : Int) from rfl).trans (by omega)) ((show _ = (v24 : Int) from rfl).trans (by omega))) (wkZ_try hgo hk9.1 hi hk9.2 (by omega) hl p6bhZ hk10 hjt (fun q => absurd q (by have q2 := p6hW.2.2.2.2.1.1; omega)) (fun _ => rfl) hk11 hjt2) (fun x hx => p6bbhK x (by omega)) (fun c j h0 h1 h2 h3 h4 h5 h6 h7 h8 h9 h10 h11 => (zxcj h8 (zxcj h7 (zxcj h6 (zxcj h8 (zxcj h7 (zxcj h6 ((p6bbbfr c j h0 h1 h2 h3 h4 h5 h6 h7 h8 h9 h10 h11).trans rfl)))))))) (fun c j h0 h1 h2 h3 h4 => ((p6bbbbfrL c j h0 h1 h2 h3 h4).trans rfl))
  · refine And.intro (zA_138 hS) ⟨_, (sn_E_wbl h29 hB).up (Nat.add_le_add_left (show 3 ≤ 5 by decide) hh), ?_⟩
    refine ⟨k, n, e, cl, fn, G, M, r, (t1 + 1), (j1 + 1), t2, j2, cc, d, (wkCl s6o), rfl, hS, hR, hD, (by first | exact hk | (clear hQ; grind [xu])), (zEt_fr hE (fun c j h => (zxcj (by omega) (zxcj (by omega) (zxcj (by omega) ((p6bbbfr c j (by omega) (by omega) (by omega) (by omega) (by omega) (by omega) (by omega) (by omega) (by omega) (by omega) (by omega) (by omega)).trans rfl)))))), hsc, (zCl_fr hC (fun c j h => (zxcj (by omega) (zxcj (by omega) (zxcj (by omega) ((p6bbbfr c j (by omega) (by omega) (by omega) (by omega) (by omega) (by omega) (by omega) (by omega) (by omega) (by omega) (by omega) (by omega)).trans rfl)))))), hA, (by omega), (zWk_cl p6hW (fun c j h => (zxcj (by omega) (zxcj (by omega) (zxcj (by omega) rfl)))) (show _ = (0 : Int) from rfl) (show _ = ((-1) : Int) from rfl) (show _ = (0 : Int) from rfl)), (wkCl_go (by have q := p6hW.2.2.2.2.1.1; omega)), hd, hr, hcl2, hq2, hG2, ?_⟩
    intro s45o I45o L45o p45hW p45bhZ p45bbhK p45bbbfr p45bbbbfrL
    refine And.intro (zA_138 hS) (fun v50 e50 r50 => ?_)
    refine And.intro r50 ⟨fun h53 => ?_, fun h53 => ?_⟩
    · refine And.intro (zA_138 hS) (zrdR (v := some k) hsc ?_)
      refine And.intro (zDX hD 0 rfl) ⟨_, sn_S_cl2.up (Nat.le_trans (show 1 ≤ 5 by decide) (Nat.le_add_left 5 hh)), ?_⟩
      refine ⟨k, n, e, (t1 + 1), t2, cl, fn, rfl, hS, hR, hD, (by first | exact hk | (clear hQ; grind [xu])), (zEt_fr hE (fun c j h => ((p45bbbfr c j (by omega) (by omega) (by omega) (by omega) (by omega) (by omega) (by omega) (by omega) (by omega) (by omega) (by omega) (by omega)).trans (zxcj (by omega) (zxcj (by omega) (zxcj (by omega) ((p6bbbfr c j (by omega) (by omega) (by omega) (by omega) (by omega) (by omega) (by omega) (by omega) (by omega) (by omega) (by omega) (by omega)).trans rfl))))))), (zCl_fr hC (fun c j h => ((p45bbbfr c j (by omega) (by omega) (by omega) (by omega) (by omega) (by omega) (by omega) (by omega) (by omega) (by omega) (by omega) (by omega)).trans (zxcj (by omega) (zxcj (by omega) (zxcj (by omega) ((p6bbbfr c j (by omega) (by omega) (by omega) (by omega) (by omega) (by omega) (by omega) (by omega) (by omega) (by omega) (by omega) (by omega)).trans rfl))))))), hcl2, (by omega), ?_⟩
      refine hQ _ _ _ _ (by omega) (zWk_tr1 p45hW (by omega)) (wkZ_try hgo hk9.1 hi hk9.2 (by omega) hl p6bhZ hk10 hjt (fun _ => p45bhZ) (fun q => absurd q (by have q2 := p6hW.2.2.2.2.1.1; omega)) hk11 hjt2) (fun x hx => (p45bbhK x (by omega)).trans (p6bbhK x (by omega))) (fun c j h0 h1 h2 h3 h4 h5 h6 h7 h8 h9 h10 h11 => ((p45bbbfr c j h0 h1 h2 h3 h4 h5 h6 h7 h8 h9 h10 h11).trans (zxcj h8 (zxcj h7 (zxcj h6 ((p6bbbfr c j h0 h1 h2 h3 h4 h5 h6 h7 h8 h9 h10 h11).trans rfl)))))) (fun c j h0 h1 h2 h3 h4 => ((p45bbbbfrL c j h0 h1 h2 h3 h4).trans ((p6bbbbfrL c j h0 h1 h2 h3 h4).trans rfl)))
    · have t53 : True := True.intro
      refine And.intro (zA_138 hS) (Exists.intro _ (And.intro (zinl_ok (zT4_12 (hh + 4))) (And.intro rfl ?_)))
      refine And.intro (zA_138 hS) ⟨_, (zWi r12), ?_⟩
      refine And.intro (zA_138 hS) ⟨_, (zWi r18), ?_⟩
      refine And.intro (zA_138 hS) ⟨_, (zWi r24), ?_⟩
      refine And.intro (zA_138 hS) (zrdR (v := some k) hsc ?_)
      refine And.intro (zDX hD 0 rfl) ⟨_, sn_S_cl2.up (Nat.le_trans (show 1 ≤ 5 by decide) (Nat.le_add_left 5 hh)), ?_⟩
      refine ⟨k, n, e, (t1 + 1), t2, cl, fn, rfl, hS, hR, hD, (by first | exact hk | (clear hQ; grind [xu])), (zEt_fr hE (fun c j h => (zxcj (by omega) (zxcj (by omega) (zxcj (by omega) ((p45bbbfr c j (by omega) (by omega) (by omega) (by omega) (by omega) (by omega) (by omega) (by omega) (by omega) (by omega) (by omega) (by omega)).trans (zxcj (by omega) (zxcj (by omega) (zxcj (by omega) ((p6bbbfr c j (by omega) (by omega) (by omega) (by omega) (by omega) (by omega) (by omega) (by omega) (by omega) (by omega) (by omega) (by omega)).trans rfl)))))))))), (zCl_fr hC (fun c j h => (zxcj (by omega) (zxcj (by omega) (zxcj (by omega) ((p45bbbfr c j (by omega) (by omega) (by omega) (by omega) (by omega) (by omega) (by omega) (by omega) (by omega) (by omega) (by omega) (by omega)).trans (zxcj (by omega) (zxcj (by omega) (zxcj (by omega) ((p6bbbfr c j (by omega) (by omega) (by omega) (by omega) (by omega) (by omega) (by omega) (by omega) (by omega) (by omega) (by omega) (by omega)).trans rfl)))))))))), hcl2, (by omega), ?_⟩
      refine hQ _ _ _ _ (by omega) (zWk_tr0 p45hW (by omega) (fun c j h => (zxcj (by omega) (zxcj (by omega) (zxcj (by omega) rfl)))) ((show _ = (v12 : Int) from rfl).trans (by have q := p6hW.2.2.2.2.2.1; omega)) ((show _ = (v18 : Int) from rfl).trans (by have q := p6hW.2.2.2.2.2.2.1; omega)) ((show _ = (v24 : Int) from rfl).trans (by have q := p6hW.2.2.2.2.2.2.2; omega))) (wkZ_try hgo hk9.1 hi hk9.2 (by omega) hl p6bhZ hk10 hjt (fun _ => p45bhZ) (fun q => absurd q (by have q2 := p6hW.2.2.2.2.1.1; omega)) hk11 hjt2) (fun x hx => (p45bbhK x (by omega)).trans (p6bbhK x (by omega))) (fun c j h0 h1 h2 h3 h4 h5 h6 h7 h8 h9 h10 h11 => (zxcj h8 (zxcj h7 (zxcj h6 ((p45bbbfr c j h0 h1 h2 h3 h4 h5 h6 h7 h8 h9 h10 h11).trans (zxcj h8 (zxcj h7 (zxcj h6 ((p6bbbfr c j h0 h1 h2 h3 h4 h5 h6 h7 h8 h9 h10 h11).trans rfl))))))))) (fun c j h0 h1 h2 h3 h4 => ((p45bbbbfrL c j h0 h1 h2 h3 h4).trans ((p6bbbbfrL c j h0 h1 h2 h3 h4).trans rfl))))
