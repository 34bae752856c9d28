/-! uj -/
def T_E_wsLp (D : Nat) : ZT := fun args I L R S Q => ∃ (k : Nat) (n : Nat) (e : Nat → Int) (cl : Nat → Int) (fn : Nat → Int) (G : WkG) (M : WkM) (r : Nat) (p : Nat) (i : Nat) (t1 : Nat) (j1 : Nat) (cc : Nat) (d : Nat) (s : WkS), args = [zvr 138, zvi p, zvi cc, zvi d] ∧ (zSh S) ∧ (zRs R) ∧ (zDy zT8 zF8 k R S) ∧ (k = 130 ∨ k = 134) ∧ (zEt k n e I) ∧ (R 138 0 = some k) ∧ (zCl k n cl fn I) ∧ (wfA n e cl fn M G) ∧ (cc ≤ 2) ∧ (zWk n e M s I L) ∧ (wkGo s) ∧ (d + 1 + D = 10) ∧ (d + 1 + r + 4 ≤ 6 + 2 * cc) ∧ (p < n) ∧ ((exEx e 3 (p + 1)).1 = 1) ∧ (cl (exEx e 3 (p + 1)).2.1 = (t1 : Int)) ∧ ((exEx e 3 (p + 1)).2.1 < t1 ∧ t1 < n) ∧ (i ≤ M.2.2.2) ∧ (G r ((exEx e 3 (p + 1)).2.1 + 1) (i + 1) t1 j1) ∧ (M.1 i = (6, (p : Int), 0, [], (exEx e 3 (p + 1)).2.2, ((j1 + 1 : Nat) : Int))) ∧ ((M.1 j1).1 = 17 ∧ (M.1 j1).2.2.2.2.2 = (i : Int)) ∧ (j1 ≤ M.2.2.2) ∧ (e p = 42) ∧ ∀ (v : Int) (s' : WkS) (I' : ZI) (L' : ZI), (wkV s' v (t1 + 1)) → (r32 v) → (zWk n e M s' I' L') → (wkZ M d cc i s (j1 + 1) s') → (∀ x : Nat, x < 72 * d → L' 141 x = L 141 x) → (∀ c j : Nat, ¬ (c = 138 ∧ j = 3) → ¬ (c = 138 ∧ j = 6) → ¬ (c = 138 ∧ j = 8) → ¬ (c = 138 ∧ j = 10) → ¬ (c = 138 ∧ j = 11) → ¬ (c = 138 ∧ j = 12) → ¬ (c = 138 ∧ j = 13) → ¬ (c = 138 ∧ j = 14) → ¬ (c = 138 ∧ j = 15) → ¬ (c = 138 ∧ j = 16) → ¬ (c = 138 ∧ j = 17) → ¬ c = 144 → I' c j = I c j) → (∀ c j : Nat, ¬ c = 139 → ¬ c = 140 → ¬ c = 141 → ¬ c = 142 → ¬ c = 143 → L' c j = L c j) → Q (some (zvi (v))) I' L' R S
theorem sn_E_wsLp {hh D : Nat} (h29 : 29 ≤ hh) (hB : ZSnd hh 4 30 (T_E_wlk D)) : ZSnd (hh + 9) 4 38 (T_E_wsLp D) := ZSnd.of (zT4_38 (hh + 8)) (by
  rintro args I L R S Q hz ⟨k, n, e, cl, fn, G, M, r, p, i, t1, j1, cc, d, s, rfl, hS, hR, hD, hk, hE, hsc, hC, hA, hcc, hW, hgo, hd, hr, hp, hg, hcl, hq, hi, hG, hMi, hj1, hjt, hvr, hQ⟩
  have hk130 : 130 ≤ k := by omega
  have hk134 : k ≤ 134 := by omega
  obtain ⟨hE1, hE2, hE3⟩ := id hE
  have hn4 := hE2.1
  obtain ⟨⟨g11, g11b, g11c⟩, g12, g13, ⟨g3, g3b⟩, ⟨g6, g6b⟩, ⟨g8, g8b⟩, g10, g10b⟩ := zWk_n hW hgo
  refine And.intro rfl ?_
  refine And.intro (zA_138 hS) (zrdR (v := some k) hsc ?_)
  refine And.intro (zDX hD 0 rfl) ⟨_, sn_S_let.up (Nat.le_trans (show 1 ≤ 8 by decide) (Nat.le_add_left 8 hh)), ?_⟩
  refine ⟨k, n, e, (p : Int), p, rfl, hS, hR, hD, (by first | exact hk | (clear hQ; grind [xu])), (by first | exact (zEt_fr hE (fun c j h => rfl)) | (clear hQ; grind [xu])), (by omega), ?_⟩
  intro v5o p5hv p5bhv2
  refine And.intro ⟨(by omega), (zRb rfl)⟩ ⟨fun h14 => ?_, (fun h14 => False.elim (by omega))⟩
  refine And.intro ⟨(by omega), (zRb rfl)⟩ ⟨(fun h34 => False.elim (by omega)), fun h34 => ?_⟩
  refine And.intro (zA_138 hS) ⟨_, (sn_E_wlp h29 hB).up (Nat.add_le_add_left (show 6 ≤ 8 by decide) hh), ?_⟩
  refine ⟨k, n, e, cl, fn, G, M, r, p, i, t1, j1, cc, d, s, rfl, hS, hR, hD, (by first | exact hk | (clear hQ; grind [xu])), (zEt_fr hE (fun c j h => rfl)), hsc, (zCl_fr hC (fun c j h => rfl)), hA, hcc, hW, hgo, hd, hr, hp, hg, hcl, hq, hi, hG, hMi, hj1, hjt, ?_⟩
  intro v41o s41o I41o L41o p41hv p41bhrv p41bbhW p41bbbhZ p41bbbbhK p41bbbbbfr p41bbbbbbfrL
  refine hQ _ _ _ _ p41hv p41bhrv p41bbhW p41bbbhZ p41bbbbhK (fun c j h0 h1 h2 h3 h4 h5 h6 h7 h8 h9 h10 h11 => ((p41bbbbbfr c j h0 h1 h2 h3 h4 h5 h6 h7 h8 h9 h10 h11).trans rfl)) (fun c j h0 h1 h2 h3 h4 => ((p41bbbbbbfrL c j h0 h1 h2 h3 h4).trans rfl)))
def T_E_wsC6 : ZT := fun args I L R S Q => ∃ (k : Nat) (n : Nat) (e : Nat → Int) (cl : Nat → Int) (fn : Nat → Int) (G : WkG) (M : WkM) (p : Nat) (i : Nat) (cc : Nat) (d : Nat) (s : WkS), args = [zvr 138, zvi p, zvi cc, zvi d] ∧ (zSh S) ∧ (zRs R) ∧ (zDy zT8 zF8 k R S) ∧ (k = 130 ∨ k = 134) ∧ (zEt k n e I) ∧ (R 138 0 = some k) ∧ (zCl k n cl fn I) ∧ (wfA n e cl fn M G) ∧ (cc ≤ 2) ∧ (zWk n e M s I L) ∧ (wkGo s) ∧ (s.2.1 < M.2.2.1) ∧ (p < n) ∧ (i ≤ M.2.2.2) ∧ (65 ≤ e p ∧ e p ≤ 90) ∧ (M.1 i = (18, (p : Int), e p - 65, [], [], 0)) ∧ (fn (e p - 65).toNat = -1) ∧ (M.2.1 (e p - 65).toNat = -1) ∧ (65 ≤ e p) ∧ ∀ (v : Int) (I' : ZI) (L' : ZI), (v = (p + 2 : Nat)) → (zWk n e M (wkF (wkSp s) 6 p 0) I' L') → (wkZ M d cc i s (i + 1) (wkF (wkSp s) 6 p 0)) → (∀ x : Nat, x < 72 * d → L' 141 x = L 141 x) → (∀ c j : Nat, ¬ (c = 138 ∧ j = 3) → ¬ (c = 138 ∧ j = 6) → ¬ (c = 138 ∧ j = 8) → ¬ (c = 138 ∧ j = 10) → ¬ (c = 138 ∧ j = 11) → ¬ (c = 138 ∧ j = 12) → ¬ (c = 138 ∧ j = 13) → ¬ (c = 138 ∧ j = 14) → ¬ (c = 138 ∧ j = 15) → ¬ (c = 138 ∧ j = 16) → ¬ (c = 138 ∧ j = 17) → ¬ c = 144 → I' c j = I c j) → (∀ c j : Nat, ¬ c = 139 → ¬ c = 140 → ¬ c = 141 → ¬ c = 142 → ¬ c = 143 → L' c j = L c j) → Q (some (zvi (v))) I' L' R S
theorem sn_E_wsC6 : ZSnd 7 4 38 T_E_wsC6 := ZSnd.of (zT4_38 6) (by
  rintro args I L R S Q hz ⟨k, n, e, cl, fn, G, M, p, i, cc, d, s, rfl, hS, hR, hD, hk, hE, hsc, hC, hA, hcc, hW, hgo, hl, hp, hi, hc, hMi, hfn, hu, hvr, hQ⟩
  have hk130 : 130 ≤ k := by omega
  have hk134 : k ≤ 134 := by omega
  obtain ⟨hE1, hE2, hE3⟩ := id hE
  have hn4 := hE2.1
  obtain ⟨⟨g11, g11b, g11c⟩, g12, g13, ⟨g3, g3b⟩, ⟨g6, g6b⟩, ⟨g8, g8b⟩, g10, g10b⟩ := zWk_n hW hgo
  refine And.intro rfl ?_
  refine And.intro (zA_138 hS) (zrdR (v := some k) hsc ?_)
  refine And.intro (zDX hD 0 rfl) ⟨_, sn_S_let.up (by decide), ?_⟩
  refine ⟨k, n, e, (p : Int), p, rfl, hS, hR, hD, (by first | exact hk | (clear hQ; grind [xu])), (by first | exact (zEt_fr hE (fun c j h => rfl)) | (clear hQ; grind [xu])), (by omega), ?_⟩
  intro v5o p5hv p5bhv2
  refine And.intro ⟨(by omega), (zRb rfl)⟩ ⟨fun h14 => ?_, (fun h14 => False.elim (by omega))⟩
  refine And.intro ⟨(by omega), (zRb rfl)⟩ ⟨fun h34 => ?_, (fun h34 => False.elim (by omega))⟩
  refine And.intro (zA_138 hS) (Exists.intro _ (And.intro (zinl_ok (zT4_25 5)) (And.intro rfl ?_)))
  refine And.intro (zA_138 hS) (zrd (v := (M.2.2.1 - s.2.1)) g11 ?_)
  refine And.intro (by omega) ⟨fun h4_46 => ?_, (fun h4_46 => False.elim (by omega))⟩
  refine And.intro (zA_138 hS) (zrd (v := (M.2.2.1 - s.2.1)) g11 ?_)
  refine And.intro (zA_138 hS) ⟨_, (zWi (by omega)), ?_⟩
  refine And.intro (Or.inr rfl) ?_
  refine And.intro (zRb rfl) (zbt rfl ?_)
  refine Exists.intro _ (And.intro (zinl_ok (zT8_7 5)) (And.intro rfl ?_))
  refine And.intro ⟨(by omega), (zRb rfl)⟩ ⟨(fun h3_56 => False.elim (by omega)), fun h3_56 => ?_⟩
  refine And.intro ⟨(by omega), (zRb rfl)⟩ ⟨(fun h9_56 => False.elim (by omega)), fun h9_56 => ?_⟩
  refine And.intro (Or.inr rfl) ?_
  refine And.intro (zRb rfl) (zbf rfl ?_)
  refine And.intro (zA_138 hS) ⟨_, sn_E_wc6.up (by decide), ?_⟩
  refine ⟨k, n, e, cl, fn, G, M, p, i, cc, d, s, rfl, hS, hR, hD, (by first | exact hk | (clear hQ; grind [xu])), (zEt_fr hE (fun c j h => (zxcj (by omega) rfl))), hsc, (zCl_fr hC (fun c j h => (zxcj (by omega) rfl))), hA, hcc, (zWk_sp hW (by omega) (fun c j h => (zxcj (by omega) rfl)) ((show _ = (((M.2.2.1 - s.2.1) - 1) : Int) from rfl).trans (by omega))), hgo, hl, hp, hi, hc, hMi, hfn, hu, ?_⟩
  intro v66o I66o L66o p66hv p66bhW p66bbhZ p66bbbhK p66bbbbfr p66bbbbbfrL
  refine hQ _ _ _ p66hv p66bhW p66bbhZ p66bbbhK (fun c j h0 h1 h2 h3 h4 h5 h6 h7 h8 h9 h10 h11 => ((p66bbbbfr c j h0 h1 h2 h3 h4 h5 h6 h7 h8 h9 h10 h11).trans (zxcj h4 rfl))) (fun c j h0 h1 h2 h3 h4 => ((p66bbbbbfrL c j h0 h1 h2 h3 h4).trans rfl)))
def T_E_wsC5 : ZT := fun args I L R S Q => ∃ (k : Nat) (n : Nat) (e : Nat → Int) (cl : Nat → Int) (fn : Nat → Int) (G : WkG) (M : WkM) (p : Nat) (i : Nat) (cc : Nat) (d : Nat) (s : WkS) (qf : Nat) (kf : Nat), args = [zvr 138, zvi p, zvi cc, zvi d] ∧ (zSh S) ∧ (zRs R) ∧ (zDy zT8 zF8 k R S) ∧ (k = 130 ∨ k = 134) ∧ (zEt k n e I) ∧ (R 138 0 = some k) ∧ (zCl k n cl fn I) ∧ (wfA n e cl fn M G) ∧ (cc ≤ 2) ∧ (zWk n e M s I L) ∧ (wkGo s) ∧ (s.2.1 < M.2.2.1) ∧ (p < n) ∧ (i ≤ M.2.2.2) ∧ (65 ≤ e p ∧ e p ≤ 90) ∧ (M.1 i = (18, (p : Int), e p - 65, [], [], 0)) ∧ (fn (e p - 65).toNat = (qf : Int)) ∧ (M.2.1 (e p - 65).toNat = (kf : Int)) ∧ (cc = 2) ∧ (65 ≤ e p) ∧ ∀ (v : Int) (I' : ZI) (L' : ZI), (v = (p + 2 : Nat)) → (zWk n e M (wkF (wkSp s) 5 p 0) I' L') → (wkZ M d cc i s (i + 1) (wkF (wkSp s) 5 p 0)) → (∀ x : Nat, x < 72 * d → L' 141 x = L 141 x) → (∀ c j : Nat, ¬ (c = 138 ∧ j = 3) → ¬ (c = 138 ∧ j = 6) → ¬ (c = 138 ∧ j = 8) → ¬ (c = 138 ∧ j = 10) → ¬ (c = 138 ∧ j = 11) → ¬ (c = 138 ∧ j = 12) → ¬ (c = 138 ∧ j = 13) → ¬ (c = 138 ∧ j = 14) → ¬ (c = 138 ∧ j = 15) → ¬ (c = 138 ∧ j = 16) → ¬ (c = 138 ∧ j = 17) → ¬ c = 144 → I' c j = I c j) → (∀ c j : Nat, ¬ c = 139 → ¬ c = 140 → ¬ c = 141 → ¬ c = 142 → ¬ c = 143 → L' c j = L c j) → Q (some (zvi (v))) I' L' R S
theorem sn_E_wsC5 : ZSnd 7 4 38 T_E_wsC5 := ZSnd.of (zT4_38 6) (by
  rintro args I L R S Q hz ⟨k, n, e, cl, fn, G, M, p, i, cc, d, s, qf, kf, rfl, hS, hR, hD, hk, hE, hsc, hC, hA, hcc, hW, hgo, hl, hp, hi, hc, hMi, hfn, hu, hcc2, hvr, hQ⟩
  have hk130 : 130 ≤ k := by omega
  have hk134 : k ≤ 134 := by omega
  obtain ⟨hE1, hE2, hE3⟩ := id hE
  have hn4 := hE2.1
  obtain ⟨⟨g11, g11b, g11c⟩, g12, g13, ⟨g3, g3b⟩, ⟨g6, g6b⟩, ⟨g8, g8b⟩, g10, g10b⟩ := zWk_n hW hgo
  refine And.intro rfl ?_
  refine And.intro (zA_138 hS) (zrdR (v := some k) hsc ?_)
  refine And.intro (zDX hD 0 rfl) ⟨_, sn_S_let.up (by decide), ?_⟩
  refine ⟨k, n, e, (p : Int), p, rfl, hS, hR, hD, (by first | exact hk | (clear hQ; grind [xu])), (by first | exact (zEt_fr hE (fun c j h => rfl)) | (clear hQ; grind [xu])), (by omega), ?_⟩
  intro v5o p5hv p5bhv2
  refine And.intro ⟨(by omega), (zRb rfl)⟩ ⟨fun h14 => ?_, (fun h14 => False.elim (by omega))⟩
  refine And.intro ⟨(by omega), (zRb rfl)⟩ ⟨fun h34 => ?_, (fun h34 => False.elim (by omega))⟩
  refine And.intro (zA_138 hS) (Exists.intro _ (And.intro (zinl_ok (zT4_25 5)) (And.intro rfl ?_)))
  refine And.intro (zA_138 hS) (zrd (v := (M.2.2.1 - s.2.1)) g11 ?_)
  refine And.intro (by omega) ⟨fun h4_46 => ?_, (fun h4_46 => False.elim (by omega))⟩
  refine And.intro (zA_138 hS) (zrd (v := (M.2.2.1 - s.2.1)) g11 ?_)
  refine And.intro (zA_138 hS) ⟨_, (zWi (by omega)), ?_⟩
  refine And.intro (Or.inr rfl) ?_
  refine And.intro (zRb rfl) (zbt rfl ?_)
  refine Exists.intro _ (And.intro (zinl_ok (zT8_7 5)) (And.intro rfl ?_))
  refine And.intro ⟨(by omega), (zRb rfl)⟩ ⟨(fun h3_56 => False.elim (by omega)), fun h3_56 => ?_⟩
  refine And.intro ⟨(by omega), (zRb rfl)⟩ ⟨(fun h9_56 => False.elim (by omega)), fun h9_56 => ?_⟩
  refine And.intro (Or.inr rfl) ?_
  refine And.intro (zRb rfl) (zbf rfl ?_)
  refine And.intro (zA_138 hS) ⟨_, sn_E_wc5.up (by decide), ?_⟩
  refine ⟨k, n, e, cl, fn, G, M, p, i, cc, d, s, qf, kf, rfl, hS, hR, hD, (by first | exact hk | (clear hQ; grind [xu])), (zEt_fr hE (fun c j h => (zxcj (by omega) rfl))), hsc, (zCl_fr hC (fun c j h => (zxcj (by omega) rfl))), hA, hcc, (zWk_sp hW (by omega) (fun c j h => (zxcj (by omega) rfl)) ((show _ = (((M.2.2.1 - s.2.1) - 1) : Int) from rfl).trans (by omega))), hgo, hl, hp, hi, hc, hMi, hfn, hu, hcc2, ?_⟩
  intro v66o I66o L66o p66hv p66bhW p66bbhZ p66bbbhK p66bbbbfr p66bbbbbfrL
  refine hQ _ _ _ p66hv p66bhW p66bbhZ p66bbbhK (fun c j h0 h1 h2 h3 h4 h5 h6 h7 h8 h9 h10 h11 => ((p66bbbbfr c j h0 h1 h2 h3 h4 h5 h6 h7 h8 h9 h10 h11).trans (zxcj h4 rfl))) (fun c j h0 h1 h2 h3 h4 => ((p66bbbbbfrL c j h0 h1 h2 h3 h4).trans rfl)))
def T_E_wsCB (D : Nat) : ZT := fun args I L R S Q => ∃ (k : Nat) (n : Nat) (e : Nat → Int) (cl : Nat → Int) (fn : Nat → Int) (G : WkG) (M : WkM) (p : Nat) (i : Nat) (cc : Nat) (d : Nat) (s : WkS) (qf : Nat) (kf : Nat) (t1 : Nat) (j1 : Nat), args = [zvr 138, zvi p, zvi cc, zvi d] ∧ (zSh S) ∧ (zRs R) ∧ (zDy zT8 zF8 k R S) ∧ (k = 130 ∨ k = 134) ∧ (zEt k n e I) ∧ (R 138 0 = some k) ∧ (zCl k n cl fn I) ∧ (wfA n e cl fn M G) ∧ (cc ≤ 2) ∧ (zWk n e M s I L) ∧ (wkGo s) ∧ (s.2.1 < M.2.2.1) ∧ (p < n) ∧ (i ≤ M.2.2.2) ∧ (65 ≤ e p ∧ e p ≤ 90) ∧ (M.1 i = (18, (p : Int), e p - 65, [], [], 0)) ∧ (fn (e p - 65).toNat = (qf : Int)) ∧ (M.2.1 (e p - 65).toNat = (kf : Int)) ∧ (cc < 2) ∧ (cl qf = (t1 : Int)) ∧ (qf < t1 ∧ t1 < n) ∧ (G 1 (qf + 1) kf t1 j1) ∧ ((M.1 j1).1 = 19) ∧ (j1 ≤ M.2.2.2) ∧ (d + 1 + D = 10) ∧ (d + 4 ≤ 6 + 2 * cc) ∧ (65 ≤ e p) ∧ ∀ (v : Int) (s' : WkS) (I' : ZI) (L' : ZI), (v = (p + 2 : Nat)) → (zWk n e M s' I' L') → (wkZ M d cc i s (i + 1) s') → (∀ x : Nat, x < 72 * d → L' 141 x = L 141 x) → (∀ c j : Nat, ¬ (c = 138 ∧ j = 3) → ¬ (c = 138 ∧ j = 6) → ¬ (c = 138 ∧ j = 8) → ¬ (c = 138 ∧ j = 10) → ¬ (c = 138 ∧ j = 11) → ¬ (c = 138 ∧ j = 12) → ¬ (c = 138 ∧ j = 13) → ¬ (c = 138 ∧ j = 14) → ¬ (c = 138 ∧ j = 15) → ¬ (c = 138 ∧ j = 16) → ¬ (c = 138 ∧ j = 17) → ¬ c = 144 → I' c j = I c j) → (∀ c j : Nat, ¬ c = 139 → ¬ c = 140 → ¬ c = 141 → ¬ c = 142 → ¬ c = 143 → L' c j = L c j) → Q (some (zvi (v))) I' L' R S
theorem sn_E_wsCB {hh D : Nat} (h29 : 29 ≤ hh) (hB : ZSnd hh 4 30 (T_E_wlk D)) : ZSnd (hh + 9) 4 38 (T_E_wsCB D) := ZSnd.of (zT4_38 (hh + 8)) (by
  rintro args I L R S Q hz ⟨k, n, e, cl, fn, G, M, p, i, cc, d, s, qf, kf, t1, j1, rfl, hS, hR, hD, hk, hE, hsc, hC, hA, hcc, hW, hgo, hl, hp, hi, hc, hMi, hfn, hu, hcc2, hcl, hq, hG, hr9, hjt, hd, hr, hvr, hQ⟩
  have hk130 : 130 ≤ k := by omega
  have hk134 : k ≤ 134 := by omega
  obtain ⟨hE1, hE2, hE3⟩ := id hE
  have hn4 := hE2.1
  obtain ⟨⟨g11, g11b, g11c⟩, g12, g13, ⟨g3, g3b⟩, ⟨g6, g6b⟩, ⟨g8, g8b⟩, g10, g10b⟩ := zWk_n hW hgo
  refine And.intro rfl ?_
  refine And.intro (zA_138 hS) (zrdR (v := some k) hsc ?_)
  refine And.intro (zDX hD 0 rfl) ⟨_, sn_S_let.up (Nat.le_trans (show 1 ≤ 8 by decide) (Nat.le_add_left 8 hh)), ?_⟩
  refine ⟨k, n, e, (p : Int), p, rfl, hS, hR, hD, (by first | exact hk | (clear hQ; grind [xu])), (by first | exact (zEt_fr hE (fun c j h => rfl)) | (clear hQ; grind [xu])), (by omega), ?_⟩
  intro v5o p5hv p5bhv2
  refine And.intro ⟨(by omega), (zRb rfl)⟩ ⟨fun h14 => ?_, (fun h14 => False.elim (by omega))⟩
  refine And.intro ⟨(by omega), (zRb rfl)⟩ ⟨fun h34 => ?_, (fun h34 => False.elim (by omega))⟩
  refine And.intro (zA_138 hS) (Exists.intro _ (And.intro (zinl_ok (zT4_25 (hh + 7))) (And.intro rfl ?_)))
  refine And.intro (zA_138 hS) (zrd (v := (M.2.2.1 - s.2.1)) g11 ?_)
  refine And.intro (by omega) ⟨fun h4_46 => ?_, (fun h4_46 => False.elim (by omega))⟩
  refine And.intro (zA_138 hS) (zrd (v := (M.2.2.1 - s.2.1)) g11 ?_)
  refine And.intro (zA_138 hS) ⟨_, (zWi (by omega)), ?_⟩
  refine And.intro (Or.inr rfl) ?_
  refine And.intro (zRb rfl) (zbt rfl ?_)
  refine Exists.intro _ (And.intro (zinl_ok (zT8_7 (hh + 7))) (And.intro rfl ?_))
  refine And.intro ⟨(by omega), (zRb rfl)⟩ ⟨(fun h3_56 => False.elim (by omega)), fun h3_56 => ?_⟩
  refine And.intro ⟨(by omega), (zRb rfl)⟩ ⟨(fun h9_56 => False.elim (by omega)), fun h9_56 => ?_⟩
  refine And.intro (Or.inr rfl) ?_
  refine And.intro (zRb rfl) (zbf rfl ?_)
  refine And.intro (zA_138 hS) ⟨_, (sn_E_wcB h29 hB).up (Nat.add_le_add_left (show 6 ≤ 8 by decide) hh), ?_⟩
  refine ⟨k, n, e, cl, fn, G, M, p, i, cc, d, s, qf, kf, t1, j1, rfl, hS, hR, hD, (by first | exact hk | (clear hQ; grind [xu])), (zEt_fr hE (fun c j h => (zxcj (by omega) rfl))), hsc, (zCl_fr hC (fun c j h => (zxcj (by omega) rfl))), hA, hcc, (zWk_sp hW (by omega) (fun c j h => (zxcj (by omega) rfl)) ((show _ = (((M.2.2.1 - s.2.1) - 1) : Int) from rfl).trans (by omega))), hgo, hl, hp, hi, hc, hMi, hfn, hu, hcc2, hcl, hq, hG, hr9, hjt, hd, hr, ?_⟩
  intro v66o s66o I66o L66o p66hv p66bhW p66bbhZ p66bbbhK p66bbbbfr p66bbbbbfrL
  refine hQ _ _ _ _ p66hv p66bhW p66bbhZ p66bbbhK (fun c j h0 h1 h2 h3 h4 h5 h6 h7 h8 h9 h10 h11 => ((p66bbbbfr c j h0 h1 h2 h3 h4 h5 h6 h7 h8 h9 h10 h11).trans (zxcj h4 rfl))) (fun c j h0 h1 h2 h3 h4 => ((p66bbbbbfrL c j h0 h1 h2 h3 h4).trans rfl)))
def T_E_wsQN (D : Nat) : ZT := fun args I L R S Q => ∃ (k : Nat) (n : Nat) (e : Nat → Int) (cl : Nat → Int) (fn : Nat → Int) (G : WkG) (M : WkM) (r : Nat) (p : Nat) (i : Nat) (t1 : Nat) (j1 : Nat) (cc : Nat) (d : Nat) (s : WkS), args = [zvr 138, zvi p, zvi cc, zvi d] ∧ (zSh S) ∧ (zRs R) ∧ (zDy zT8 zF8 k R S) ∧ (k = 130 ∨ k = 134) ∧ (zEt k n e I) ∧ (R 138 0 = some k) ∧ (zCl k n cl fn I) ∧ (wfA n e cl fn M G) ∧ (cc ≤ 2) ∧ (zWk n e M s I L) ∧ (wkGo s) ∧ (s.2.1 < M.2.2.1) ∧ (d + 1 + D = 10) ∧ (d + 1 + r + 4 ≤ 6 + 2 * cc) ∧ (p < n) ∧ ((exEx e 3 (p + 1)).1 = 1) ∧ (cl (exEx e 3 (p + 1)).2.1 = (t1 : Int)) ∧ ((exEx e 3 (p + 1)).2.1 < t1 ∧ t1 < n) ∧ (i ≤ M.2.2.2) ∧ (G r ((exEx e 3 (p + 1)).2.1 + 1) (i + 1) t1 j1) ∧ (e (t1 + 1) ≠ 123) ∧ (M.1 i = (5, (p : Int), 0, [], (exEx e 3 (p + 1)).2.2, (j1 : Int))) ∧ (e p = 63) ∧ ∀ (v : Int) (s' : WkS) (I' : ZI) (L' : ZI), (v = t1 + 1) → (zWk n e M s' I' L') → (wkZ M d cc i s j1 s') → (∀ x : Nat, x < 72 * d → L' 141 x = L 141 x) → (∀ c j : Nat, ¬ (c = 138 ∧ j = 3) → ¬ (c = 138 ∧ j = 6) → ¬ (c = 138 ∧ j = 8) → ¬ (c = 138 ∧ j = 10) → ¬ (c = 138 ∧ j = 11) → ¬ (c = 138 ∧ j = 12) → ¬ (c = 138 ∧ j = 13) → ¬ (c = 138 ∧ j = 14) → ¬ (c = 138 ∧ j = 15) → ¬ (c = 138 ∧ j = 16) → ¬ (c = 138 ∧ j = 17) → ¬ c = 144 → I' c j = I c j) → (∀ c j : Nat, ¬ c = 139 → ¬ c = 140 → ¬ c = 141 → ¬ c = 142 → ¬ c = 143 → L' c j = L c j) → Q (some (zvi (v))) I' L' R S
theorem sn_E_wsQN {hh D : Nat} (h29 : 29 ≤ hh) (hB : ZSnd hh 4 30 (T_E_wlk D)) : ZSnd (hh + 9) 4 38 (T_E_wsQN D) := ZSnd.of (zT4_38 (hh + 8)) (by
  rintro args I L R S Q hz ⟨k, n, e, cl, fn, G, M, r, p, i, t1, j1, cc, d, s, rfl, hS, hR, hD, hk, hE, hsc, hC, hA, hcc, hW, hgo, hl, hd, hr, hp, hg, hcl, hq, hi, hG, hne, hMi, hvr, hQ⟩
  have hk130 : 130 ≤ k := by omega
  have hk134 : k ≤ 134 := by omega
  obtain ⟨hE1, hE2, hE3⟩ := id hE
  have hn4 := hE2.1
  obtain ⟨⟨g11, g11b, g11c⟩, g12, g13, ⟨g3, g3b⟩, ⟨g6, g6b⟩, ⟨g8, g8b⟩, g10, g10b⟩ := zWk_n hW hgo
  refine And.intro rfl ?_
  refine And.intro (zA_138 hS) (zrdR (v := some k) hsc ?_)
  refine And.intro (zDX hD 0 rfl) ⟨_, sn_S_let.up (Nat.le_trans (show 1 ≤ 8 by decide) (Nat.le_add_left 8 hh)), ?_⟩
  refine ⟨k, n, e, (p : Int), p, rfl, hS, hR, hD, (by first | exact hk | (clear hQ; grind [xu])), (by first | exact (zEt_fr hE (fun c j h => rfl)) | (clear hQ; grind [xu])), (by omega), ?_⟩
  intro v5o p5hv p5bhv2
  refine And.intro ⟨(by omega), (zRb rfl)⟩ ⟨fun h14 => ?_, (fun h14 => False.elim (by omega))⟩
  refine And.intro ⟨(by omega), (zRb rfl)⟩ ⟨fun h34 => ?_, (fun h34 => False.elim (by omega))⟩
  refine And.intro (zA_138 hS) (Exists.intro _ (And.intro (zinl_ok (zT4_25 (hh + 7))) (And.intro rfl ?_)))
  refine And.intro (zA_138 hS) (zrd (v := (M.2.2.1 - s.2.1)) g11 ?_)
  refine And.intro (by omega) ⟨fun h4_46 => ?_, (fun h4_46 => False.elim (by omega))⟩
  refine And.intro (zA_138 hS) (zrd (v := (M.2.2.1 - s.2.1)) g11 ?_)
  refine And.intro (zA_138 hS) ⟨_, (zWi (by omega)), ?_⟩
  refine And.intro (Or.inr rfl) ?_
  refine And.intro (zRb rfl) (zbt rfl ?_)
  refine Exists.intro _ (And.intro (zinl_ok (zT8_7 (hh + 7))) (And.intro rfl ?_))
  refine And.intro ⟨(by omega), (zRb rfl)⟩ ⟨fun h3_56 => ?_, (fun h3_56 => False.elim (by omega))⟩
  refine And.intro (Or.inl rfl) ?_
  refine And.intro (zRb rfl) (zbt rfl ?_)
  refine And.intro (by omega) (And.intro (fun h72 => False.elim (by omega)) (fun h72n0 => (And.intro (fun h72 => False.elim (by omega)) (fun h72n1 => (And.intro (fun h72 => ?_) (fun h72n2 => (And.intro (fun h72 => False.elim (by omega)) (fun h72n3 => (And.intro (fun h72 => False.elim (by omega)) (fun h72n4 => (And.intro (fun h72 => False.elim (by omega)) (fun h72n5 => (And.intro (fun h72 => False.elim (by omega)) (fun h72n6 => (False.elim (by omega))))))))))))))))
  refine And.intro (zA_138 hS) ⟨_, (sn_E_wchN h29 hB).up (Nat.add_le_add_left (show 6 ≤ 8 by decide) hh), ?_⟩
  refine ⟨k, n, e, cl, fn, G, M, r, p, i, t1, j1, cc, d, s, rfl, hS, hR, hD, (by first | exact hk | (clear hQ; grind [xu])), (zEt_fr hE (fun c j h => (zxcj (by omega) rfl))), hsc, (zCl_fr hC (fun c j h => (zxcj (by omega) rfl))), hA, hcc, (zWk_sp hW (by omega) (fun c j h => (zxcj (by omega) rfl)) ((show _ = (((M.2.2.1 - s.2.1) - 1) : Int) from rfl).trans (by omega))), hgo, hl, hd, hr, hp, hg, hcl, hq, hi, hG, hne, hMi, ?_⟩
  intro v144o s144o I144o L144o p144hv p144bhW p144bbhZ p144bbbhK p144bbbbfr p144bbbbbfrL
  refine hQ _ _ _ _ p144hv p144bhW p144bbhZ p144bbbhK (fun c j h0 h1 h2 h3 h4 h5 h6 h7 h8 h9 h10 h11 => ((p144bbbbfr c j h0 h1 h2 h3 h4 h5 h6 h7 h8 h9 h10 h11).trans (zxcj h4 rfl))) (fun c j h0 h1 h2 h3 h4 => ((p144bbbbbfrL c j h0 h1 h2 h3 h4).trans rfl)))
def T_E_wsQE (D : Nat) : ZT := fun args I L R S Q => ∃ (k : Nat) (n : Nat) (e : Nat → Int) (cl : Nat → Int) (fn : Nat → Int) (G : WkG) (M : WkM) (r : Nat) (p : Nat) (i : Nat) (t1 : Nat) (j1 : Nat) (cc : Nat) (d : Nat) (s : WkS) (t2 : Nat) (j2 : Nat), args = [zvr 138, zvi p, zvi cc, zvi d] ∧ (zSh S) ∧ (zRs R) ∧ (zDy zT8 zF8 k R S) ∧ (k = 130 ∨ k = 134) ∧ (zEt k n e I) ∧ (R 138 0 = some k) ∧ (zCl k n cl fn I) ∧ (wfA n e cl fn M G) ∧ (cc ≤ 2) ∧ (zWk n e M s I L) ∧ (wkGo s) ∧ (s.2.1 < M.2.2.1) ∧ (d + 1 + D = 10) ∧ (d + 1 + r + 4 ≤ 6 + 2 * cc) ∧ (p < n) ∧ ((exEx e 3 (p + 1)).1 = 1) ∧ (cl (exEx e 3 (p + 1)).2.1 = (t1 : Int)) ∧ ((exEx e 3 (p + 1)).2.1 < t1 ∧ t1 < n) ∧ (i ≤ M.2.2.2) ∧ (G r ((exEx e 3 (p + 1)).2.1 + 1) (i + 1) t1 j1) ∧ (e (t1 + 1) = 123) ∧ (M.1 i = (5, (p : Int), 0, [], (exEx e 3 (p + 1)).2.2, ((j1 + 1 : Nat) : Int))) ∧ ((M.1 j1).1 = 17 ∧ (M.1 j1).2.2.2.2.2 = (j2 : Int)) ∧ (j1 ≤ M.2.2.2) ∧ (cl (t1 + 1) = (t2 : Int)) ∧ (t1 + 1 < t2 ∧ t2 < n) ∧ (G r (t1 + 2) (j1 + 1) t2 j2) ∧ (e p = 63) ∧ ∀ (v : Int) (s' : WkS) (I' : ZI) (L' : ZI), (v = t2 + 1) → (zWk n e M s' I' L') → (wkZ M d cc i s j2 s') → (∀ x : Nat, x < 72 * d → L' 141 x = L 141 x) → (∀ c j : Nat, ¬ (c = 138 ∧ j = 3) → ¬ (c = 138 ∧ j = 6) → ¬ (c = 138 ∧ j = 8) → ¬ (c = 138 ∧ j = 10) → ¬ (c = 138 ∧ j = 11) → ¬ (c = 138 ∧ j = 12) → ¬ (c = 138 ∧ j = 13) → ¬ (c = 138 ∧ j = 14) → ¬ (c = 138 ∧ j = 15) → ¬ (c = 138 ∧ j = 16) → ¬ (c = 138 ∧ j = 17) → ¬ c = 144 → I' c j = I c j) → (∀ c j : Nat, ¬ c = 139 → ¬ c = 140 → ¬ c = 141 → ¬ c = 142 → ¬ c = 143 → L' c j = L c j) → Q (some (zvi (v))) I' L' R S
theorem sn_E_wsQE {hh D : Nat} (h29 : 29 ≤ hh) (hB : ZSnd hh 4 30 (T_E_wlk D)) : ZSnd (hh + 9) 4 38 (T_E_wsQE D) := ZSnd.of (zT4_38 (hh + 8)) (by
  rintro args I L R S Q hz ⟨k, n, e, cl, fn, G, M, r, p, i, t1, j1, cc, d, s, t2, j2, rfl, hS, hR, hD, hk, hE, hsc, hC, hA, hcc, hW, hgo, hl, hd, hr, hp, hg, hcl, hq, hi, hG, hne, hMi, hj1, hjt, hcl2, hq2, hG2, hvr, hQ⟩
  have hk130 : 130 ≤ k := by omega
  have hk134 : k ≤ 134 := by omega
  obtain ⟨hE1, hE2, hE3⟩ := id hE
  have hn4 := hE2.1
  obtain ⟨⟨g11, g11b, g11c⟩, g12, g13, ⟨g3, g3b⟩, ⟨g6, g6b⟩, ⟨g8, g8b⟩, g10, g10b⟩ := zWk_n hW hgo
  refine And.intro rfl ?_
  refine And.intro (zA_138 hS) (zrdR (v := some k) hsc ?_)
  refine And.intro (zDX hD 0 rfl) ⟨_, sn_S_let.up (Nat.le_trans (show 1 ≤ 8 by decide) (Nat.le_add_left 8 hh)), ?_⟩
  refine ⟨k, n, e, (p : Int), p, rfl, hS, hR, hD, (by first | exact hk | (clear hQ; grind [xu])), (by first | exact (zEt_fr hE (fun c j h => rfl)) | (clear hQ; grind [xu])), (by omega), ?_⟩
  intro v5o p5hv p5bhv2
  refine And.intro ⟨(by omega), (zRb rfl)⟩ ⟨fun h14 => ?_, (fun h14 => False.elim (by omega))⟩
  refine And.intro ⟨(by omega), (zRb rfl)⟩ ⟨fun h34 => ?_, (fun h34 => False.elim (by omega))⟩
  refine And.intro (zA_138 hS) (Exists.intro _ (And.intro (zinl_ok (zT4_25 (hh + 7))) (And.intro rfl ?_)))
  refine And.intro (zA_138 hS) (zrd (v := (M.2.2.1 - s.2.1)) g11 ?_)
  refine And.intro (by omega) ⟨fun h4_46 => ?_, (fun h4_46 => False.elim (by omega))⟩
  refine And.intro (zA_138 hS) (zrd (v := (M.2.2.1 - s.2.1)) g11 ?_)
  refine And.intro (zA_138 hS) ⟨_, (zWi (by omega)), ?_⟩
  refine And.intro (Or.inr rfl) ?_
  refine And.intro (zRb rfl) (zbt rfl ?_)
  refine Exists.intro _ (And.intro (zinl_ok (zT8_7 (hh + 7))) (And.intro rfl ?_))
  refine And.intro ⟨(by omega), (zRb rfl)⟩ ⟨fun h3_56 => ?_, (fun h3_56 => False.elim (by omega))⟩
  refine And.intro (Or.inl rfl) ?_
  refine And.intro (zRb rfl) (zbt rfl ?_)
  refine And.intro (by omega) (And.intro (fun h72 => False.elim (by omega)) (fun h72n0 => (And.intro (fun h72 => False.elim (by omega)) (fun h72n1 => (And.intro (fun h72 => ?_) (fun h72n2 => (And.intro (fun h72 => False.elim (by omega)) (fun h72n3 => (And.intro (fun h72 => False.elim (by omega)) (fun h72n4 => (And.intro (fun h72 => False.elim (by omega)) (fun h72n5 => (And.intro (fun h72 => False.elim (by omega)) (fun h72n6 => (False.elim (by omega))))))))))))))))
  refine And.intro (zA_138 hS) ⟨_, (sn_E_wchE h29 hB).up (Nat.add_le_add_left (show 6 ≤ 8 by decide) hh), ?_⟩
  refine ⟨k, n, e, cl, fn, G, M, r, p, i, t1, j1, cc, d, s, t2, j2, rfl, hS, hR, hD, (by first | exact hk | (clear hQ; grind [xu])), (zEt_fr hE (fun c j h => (zxcj (by omega) rfl))), hsc, (zCl_fr hC (fun c j h => (zxcj (by omega) rfl))), hA, hcc, (zWk_sp hW (by omega) (fun c j h => (zxcj (by omega) rfl)) ((show _ = (((M.2.2.1 - s.2.1) - 1) : Int) from rfl).trans (by omega))), hgo, hl, hd, hr, hp, hg, hcl, hq, hi, hG, hne, hMi, hj1, hjt, hcl2, hq2, hG2, ?_⟩
  intro v144o s144o I144o L144o p144hv p144bhW p144bbhZ p144bbbhK p144bbbbfr p144bbbbbfrL
  refine hQ _ _ _ _ p144hv p144bhW p144bbhZ p144bbbhK (fun c j h0 h1 h2 h3 h4 h5 h6 h7 h8 h9 h10 h11 => ((p144bbbbfr c j h0 h1 h2 h3 h4 h5 h6 h7 h8 h9 h10 h11).trans (zxcj h4 rfl))) (fun c j h0 h1 h2 h3 h4 => ((p144bbbbbfrL c j h0 h1 h2 h3 h4).trans rfl)))
def T_E_wsA (D : Nat) : ZT := fun args I L R S Q => ∃ (k : Nat) (n : Nat) (e : Nat → Int) (cl : Nat → Int) (fn : Nat → Int) (G : WkG) (M : WkM) (r : Nat) (p : Nat) (i : Nat) (t1 : Nat) (j1 : Nat) (cc : Nat) (d : Nat) (s : WkS), args = [zvr 138, zvi p, zvi cc, zvi d] ∧ (zSh S) ∧ (zRs R) ∧ (zDy zT8 zF8 k R S) ∧ (k = 130 ∨ k = 134) ∧ (zEt k n e I) ∧ (R 138 0 = some k) ∧ (zCl k n cl fn I) ∧ (wfA n e cl fn M G) ∧ (cc ≤ 2) ∧ (zWk n e M s I L) ∧ (wkGo s) ∧ (s.2.1 < M.2.2.1) ∧ (p < n) ∧ (i ≤ M.2.2.2) ∧ (d + 1 + D = 10) ∧ (d + 1 + r + 4 ≤ 6 + 2 * cc) ∧ (j1 ≤ M.2.2.2) ∧ (cl p = (t1 : Int)) ∧ (p < t1 ∧ t1 < n) ∧ (G r (p + 1) (i + 1) t1 j1) ∧ ((M.1 i).1 = 7) ∧ ((M.1 j1).1 = 8) ∧ (e p = 91) ∧ ∀ (v : Int) (s' : WkS) (I' : ZI) (L' : ZI), (v = t1 + 1) → (zWk n e M s' I' L') → (wkZ M d cc i s (j1 + 1) s') → (∀ x : Nat, x < 72 * d → L' 141 x = L 141 x) → (∀ c j : Nat, ¬ (c = 138 ∧ j = 3) → ¬ (c = 138 ∧ j = 6) → ¬ (c = 138 ∧ j = 8) → ¬ (c = 138 ∧ j = 10) → ¬ (c = 138 ∧ j = 11) → ¬ (c = 138 ∧ j = 12) → ¬ (c = 138 ∧ j = 13) → ¬ (c = 138 ∧ j = 14) → ¬ (c = 138 ∧ j = 15) → ¬ (c = 138 ∧ j = 16) → ¬ (c = 138 ∧ j = 17) → ¬ c = 144 → I' c j = I c j) → (∀ c j : Nat, ¬ c = 139 → ¬ c = 140 → ¬ c = 141 → ¬ c = 142 → ¬ c = 143 → L' c j = L c j) → Q (some (zvi (v))) I' L' R S
theorem sn_E_wsA {hh D : Nat} (h29 : 29 ≤ hh) (hB : ZSnd hh 4 30 (T_E_wlk D)) : ZSnd (hh + 9) 4 38 (T_E_wsA D) := ZSnd.of (zT4_38 (hh + 8)) (by
  rintro args I L R S Q hz ⟨k, n, e, cl, fn, G, M, r, p, i, t1, j1, cc, d, s, rfl, hS, hR, hD, hk, hE, hsc, hC, hA, hcc, hW, hgo, hl, hp, hi, hd, hr, hjt, hcl, hq, hG, hk7, hk8, hvr, hQ⟩
  have hk130 : 130 ≤ k := by omega
  have hk134 : k ≤ 134 := by omega
  obtain ⟨hE1, hE2, hE3⟩ := id hE
  have hn4 := hE2.1
  obtain ⟨⟨g11, g11b, g11c⟩, g12, g13, ⟨g3, g3b⟩, ⟨g6, g6b⟩, ⟨g8, g8b⟩, g10, g10b⟩ := zWk_n hW hgo
  refine And.intro rfl ?_
  refine And.intro (zA_138 hS) (zrdR (v := some k) hsc ?_)
  refine And.intro (zDX hD 0 rfl) ⟨_, sn_S_let.up (Nat.le_trans (show 1 ≤ 8 by decide) (Nat.le_add_left 8 hh)), ?_⟩
  refine ⟨k, n, e, (p : Int), p, rfl, hS, hR, hD, (by first | exact hk | (clear hQ; grind [xu])), (by first | exact (zEt_fr hE (fun c j h => rfl)) | (clear hQ; grind [xu])), (by omega), ?_⟩
  intro v5o p5hv p5bhv2
  refine And.intro ⟨(by omega), (zRb rfl)⟩ ⟨fun h14 => ?_, (fun h14 => False.elim (by omega))⟩
  refine And.intro ⟨(by omega), (zRb rfl)⟩ ⟨fun h34 => ?_, (fun h34 => False.elim (by omega))⟩
  refine And.intro (zA_138 hS) (Exists.intro _ (And.intro (zinl_ok (zT4_25 (hh + 7))) (And.intro rfl ?_)))
  refine And.intro (zA_138 hS) (zrd (v := (M.2.2.1 - s.2.1)) g11 ?_)
  refine And.intro (by omega) ⟨fun h4_46 => ?_, (fun h4_46 => False.elim (by omega))⟩
  refine And.intro (zA_138 hS) (zrd (v := (M.2.2.1 - s.2.1)) g11 ?_)
  refine And.intro (zA_138 hS) ⟨_, (zWi (by omega)), ?_⟩
  refine And.intro (Or.inr rfl) ?_
  refine And.intro (zRb rfl) (zbt rfl ?_)
  refine Exists.intro _ (And.intro (zinl_ok (zT8_7 (hh + 7))) (And.intro rfl ?_))
  refine And.intro ⟨(by omega), (zRb rfl)⟩ ⟨(fun h3_56 => False.elim (by omega)), fun h3_56 => ?_⟩
  refine And.intro ⟨(by omega), (zRb rfl)⟩ ⟨fun h9_56 => ?_, (fun h9_56 => False.elim (by omega))⟩
  refine And.intro (Or.inl rfl) ?_
  refine And.intro (zRb rfl) (zbt rfl ?_)
  refine And.intro (by omega) (And.intro (fun h72 => False.elim (by omega)) (fun h72n0 => (And.intro (fun h72 => False.elim (by omega)) (fun h72n1 => (And.intro (fun h72 => False.elim (by omega)) (fun h72n2 => (And.intro (fun h72 => False.elim (by omega)) (fun h72n3 => (And.intro (fun h72 => ?_) (fun h72n4 => (And.intro (fun h72 => False.elim (by omega)) (fun h72n5 => (And.intro (fun h72 => False.elim (by omega)) (fun h72n6 => (False.elim (by omega))))))))))))))))
  refine And.intro (zA_138 hS) ⟨_, (sn_E_wac h29 hB).up (Nat.add_le_add_left (show 6 ≤ 8 by decide) hh), ?_⟩
  refine ⟨k, n, e, cl, fn, G, M, r, p, i, t1, j1, cc, d, s, rfl, hS, hR, hD, (by first | exact hk | (clear hQ; grind [xu])), (zEt_fr hE (fun c j h => (zxcj (by omega) rfl))), hsc, (zCl_fr hC (fun c j h => (zxcj (by omega) rfl))), hA, hcc, (zWk_sp hW (by omega) (fun c j h => (zxcj (by omega) rfl)) ((show _ = (((M.2.2.1 - s.2.1) - 1) : Int) from rfl).trans (by omega))), hgo, hl, hp, hi, hd, hr, hjt, hcl, hq, hG, hk7, hk8, ?_⟩
  intro v152o s152o I152o L152o p152hv p152bhW p152bbhZ p152bbbhK p152bbbbfr p152bbbbbfrL
  refine hQ _ _ _ _ p152hv p152bhW p152bbhZ p152bbbhK (fun c j h0 h1 h2 h3 h4 h5 h6 h7 h8 h9 h10 h11 => ((p152bbbbfr c j h0 h1 h2 h3 h4 h5 h6 h7 h8 h9 h10 h11).trans (zxcj h4 rfl))) (fun c j h0 h1 h2 h3 h4 => ((p152bbbbbfrL c j h0 h1 h2 h3 h4).trans rfl)))
def T_E_wsT (D : Nat) : ZT := fun args I L R S Q => ∃ (k : Nat) (n : Nat) (e : Nat → Int) (cl : Nat → Int) (fn : Nat → Int) (G : WkG) (M : WkM) (r : Nat) (p : Nat) (i : Nat) (t1 : Nat) (j1 : Nat) (cc : Nat) (d : Nat) (s : WkS) (t2 : Nat) (j2 : Nat), args = [zvr 138, zvi p, zvi cc, zvi d] ∧ (zSh S) ∧ (zRs R) ∧ (zDy zT8 zF8 k R S) ∧ (k = 130 ∨ k = 134) ∧ (zEt k n e I) ∧ (R 138 0 = some k) ∧ (zCl k n cl fn I) ∧ (wfA n e cl fn M G) ∧ (cc ≤ 2) ∧ (zWk n e M s I L) ∧ (wkGo s) ∧ (s.2.1 < M.2.2.1) ∧ (p < n) ∧ (i ≤ M.2.2.2) ∧ (d + 1 + D = 10) ∧ (d + 1 + r + 4 ≤ 6 + 2 * cc) ∧ (j1 ≤ M.2.2.2) ∧ (cl (p + 1) = (t1 : Int)) ∧ (p + 1 < t1 ∧ t1 < n) ∧ (G r (p + 2) (i + 1) t1 j1) ∧ (cl (t1 + 1) = (t2 : Int)) ∧ (t1 + 1 < t2 ∧ t2 < n) ∧ (G r (t1 + 2) (j1 + 1) t2 j2) ∧ ((M.1 i).1 = 9 ∧ (M.1 i).2.2.2.2.2 = (j1 : Int)) ∧ ((M.1 j1).1 = 10) ∧ ((M.1 j2).1 = 11) ∧ (j2 ≤ M.2.2.2) ∧ (e p = 126) ∧ ∀ (v : Int) (s' : WkS) (I' : ZI) (L' : ZI), (v = t2 + 1) → (zWk n e M s' I' L') → (wkZ M d cc i s (j2 + 1) s') → (∀ x : Nat, x < 72 * d → L' 141 x = L 141 x) → (∀ c j : Nat, ¬ (c = 138 ∧ j = 3) → ¬ (c = 138 ∧ j = 6) → ¬ (c = 138 ∧ j = 8) → ¬ (c = 138 ∧ j = 10) → ¬ (c = 138 ∧ j = 11) → ¬ (c = 138 ∧ j = 12) → ¬ (c = 138 ∧ j = 13) → ¬ (c = 138 ∧ j = 14) → ¬ (c = 138 ∧ j = 15) → ¬ (c = 138 ∧ j = 16) → ¬ (c = 138 ∧ j = 17) → ¬ c = 144 → I' c j = I c j) → (∀ c j : Nat, ¬ c = 139 → ¬ c = 140 → ¬ c = 141 → ¬ c = 142 → ¬ c = 143 → L' c j = L c j) → Q (some (zvi (v))) I' L' R S
theorem sn_E_wsT {hh D : Nat} (h29 : 29 ≤ hh) (hB : ZSnd hh 4 30 (T_E_wlk D)) : ZSnd (hh + 9) 4 38 (T_E_wsT D) := ZSnd.of (zT4_38 (hh + 8)) (by
  rintro args I L R S Q hz ⟨k, n, e, cl, fn, G, M, r, p, i, t1, j1, cc, d, s, t2, j2, rfl, hS, hR, hD, hk, hE, hsc, hC, hA, hcc, hW, hgo, hl, hp, hi, hd, hr, hjt, hcl, hq, hG, hcl2, hq2, hG2, hk9, hk10, hk11, hjt2, hvr, hQ⟩
  have hk130 : 130 ≤ k := by omega
  have hk134 : k ≤ 134 := by omega
  obtain ⟨hE1, hE2, hE3⟩ := id hE
  have hn4 := hE2.1
  obtain ⟨⟨g11, g11b, g11c⟩, g12, g13, ⟨g3, g3b⟩, ⟨g6, g6b⟩, ⟨g8, g8b⟩, g10, g10b⟩ := zWk_n hW hgo
  refine And.intro rfl ?_
  refine And.intro (zA_138 hS) (zrdR (v := some k) hsc ?_)
  refine And.intro (zDX hD 0 rfl) ⟨_, sn_S_let.up (Nat.le_trans (show 1 ≤ 8 by decide) (Nat.le_add_left 8 hh)), ?_⟩
  refine ⟨k, n, e, (p : Int), p, rfl, hS, hR, hD, (by first | exact hk | (clear hQ; grind [xu])), (by first | exact (zEt_fr hE (fun c j h => rfl)) | (clear hQ; grind [xu])), (by omega), ?_⟩
  intro v5o p5hv p5bhv2
  refine And.intro ⟨(by omega), (zRb rfl)⟩ ⟨fun h14 => ?_, (fun h14 => False.elim (by omega))⟩
  refine And.intro ⟨(by omega), (zRb rfl)⟩ ⟨fun h34 => ?_, (fun h34 => False.elim (by omega))⟩
  refine And.intro (zA_138 hS) (Exists.intro _ (And.intro (zinl_ok (zT4_25 (hh + 7))) (And.intro rfl ?_)))
  refine And.intro (zA_138 hS) (zrd (v := (M.2.2.1 - s.2.1)) g11 ?_)
  refine And.intro (by omega) ⟨fun h4_46 => ?_, (fun h4_46 => False.elim (by omega))⟩
  refine And.intro (zA_138 hS) (zrd (v := (M.2.2.1 - s.2.1)) g11 ?_)
  refine And.intro (zA_138 hS) ⟨_, (zWi (by omega)), ?_⟩
  refine And.intro (Or.inr rfl) ?_
  refine And.intro (zRb rfl) (zbt rfl ?_)
  refine Exists.intro _ (And.intro (zinl_ok (zT8_7 (hh + 7))) (And.intro rfl ?_))
  refine And.intro ⟨(by omega), (zRb rfl)⟩ ⟨(fun h3_56 => False.elim (by omega)), fun h3_56 => ?_⟩
  refine And.intro ⟨(by omega), (zRb rfl)⟩ ⟨fun h9_56 => ?_, (fun h9_56 => False.elim (by omega))⟩
  refine And.intro (Or.inl rfl) ?_
  refine And.intro (zRb rfl) (zbt rfl ?_)
  refine And.intro (by omega) (And.intro (fun h72 => False.elim (by omega)) (fun h72n0 => (And.intro (fun h72 => False.elim (by omega)) (fun h72n1 => (And.intro (fun h72 => False.elim (by omega)) (fun h72n2 => (And.intro (fun h72 => False.elim (by omega)) (fun h72n3 => (And.intro (fun h72 => False.elim (by omega)) (fun h72n4 => (And.intro (fun h72 => False.elim (by omega)) (fun h72n5 => (And.intro (fun h72 => ?_) (fun h72n6 => (False.elim (by omega))))))))))))))))
  refine And.intro (zA_138 hS) ⟨_, (sn_E_wcs h29 hB).up (Nat.add_le_add_left (show 6 ≤ 8 by decide) hh), ?_⟩
  refine ⟨k, n, e, cl, fn, G, M, r, p, i, t1, j1, cc, d, s, t2, j2, rfl, hS, hR, hD, (by first | exact hk | (clear hQ; grind [xu])), (zEt_fr hE (fun c j h => (zxcj (by omega) rfl))), hsc, (zCl_fr hC (fun c j h => (zxcj (by omega) rfl))), hA, hcc, (zWk_sp hW (by omega) (fun c j h => (zxcj (by omega) rfl)) ((show _ = (((M.2.2.1 - s.2.1) - 1) : Int) from rfl).trans (by omega))), hgo, hl, hp, hi, hd, hr, hjt, hcl, hq, hG, hcl2, hq2, hG2, hk9, hk10, hk11, hjt2, ?_⟩
  intro v160o s160o I160o L160o p160hv p160bhW p160bbhZ p160bbbhK p160bbbbfr p160bbbbbfrL
  refine hQ _ _ _ _ p160hv p160bhW p160bbhZ p160bbbhK (fun c j h0 h1 h2 h3 h4 h5 h6 h7 h8 h9 h10 h11 => ((p160bbbbfr c j h0 h1 h2 h3 h4 h5 h6 h7 h8 h9 h10 h11).trans (zxcj h4 rfl))) (fun c j h0 h1 h2 h3 h4 => ((p160bbbbbfrL c j h0 h1 h2 h3 h4).trans rfl)))
def T_E_ws58 : ZT := fun args I L R S Q => ∃ (k : Nat) (n : Nat) (e : Nat → Int) (cl : Nat → Int) (fn : Nat → Int) (G : WkG) (M : WkM) (p : Nat) (t1 : Nat) (cc : Int) (dd : Int), args = [zvr 138, zvi p, zvi cc, zvi dd] ∧ (zSh S) ∧ (zRs R) ∧ (zDy zT8 zF8 k R S) ∧ (k = 130 ∨ k = 134) ∧ (zEt k n e I) ∧ (R 138 0 = some k) ∧ (zCl k n cl fn I) ∧ (p + 2 < n) ∧ (e p = 58) ∧ (cl (p + 2) = (t1 : Int)) ∧ (t1 < n) ∧ ∀ (v : Int), (v = t1 + 1) → Q (some (zvi (v))) I L R S
theorem sn_E_ws58 : ZSnd 4 4 38 T_E_ws58 := ZSnd.of (zT4_38 3) (by
  rintro args I L R S Q hz ⟨k, n, e, cl, fn, G, M, p, t1, cc, dd, rfl, hS, hR, hD, hk, hE, hsc, hC, hp, hvr, hcl, hq, hQ⟩
  have hk130 : 130 ≤ k := by omega
  have hk134 : k ≤ 134 := by omega
  obtain ⟨hE1, hE2, hE3⟩ := id hE
  have hn4 := hE2.1
  refine And.intro rfl ?_
  refine And.intro (zA_138 hS) (zrdR (v := some k) hsc ?_)
  refine And.intro (zDX hD 0 rfl) ⟨_, sn_S_let.up (by decide), ?_⟩
  refine ⟨k, n, e, (p : Int), p, rfl, hS, hR, hD, (by first | exact hk | (clear hQ; grind [xu])), (by first | exact (zEt_fr hE (fun c j h => rfl)) | (clear hQ; grind [xu])), (by omega), ?_⟩
  intro v5o p5hv p5bhv2
  refine And.intro ⟨(by omega), (zRb rfl)⟩ ⟨(fun h14 => False.elim (by omega)), fun h14 => ?_⟩
  refine And.intro (zA_138 hS) (zrdR (v := some k) hsc ?_)
  refine And.intro (zDX hD 0 rfl) ⟨_, sn_S_cl2.up (by decide), ?_⟩
  refine ⟨k, n, e, (p + 2), t1, cl, fn, rfl, hS, hR, hD, (by first | exact hk | (clear hQ; grind [xu])), (by first | exact (zEt_fr hE (fun c j h => rfl)) | (clear hQ; grind [xu])), (by first | exact hC | (clear hQ; grind [xu])), hcl, (by omega), ?_⟩
  refine hQ _ (by omega))
