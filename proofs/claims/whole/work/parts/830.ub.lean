/-! ub -/
def T_E_ws1 : ZT := fun args I L R S Q => ∃ (k : Nat) (n : Nat) (e : Nat → Int) (p : Nat) (s : WkS) (M : WkM) (cc : Int) (dd : Int), args = [zvr 138, zvi p, zvi cc, zvi dd] ∧ (zSh S) ∧ (zRs R) ∧ (zDy zT8 zF8 k R S) ∧ (k = 130 ∨ k = 134) ∧ (zEt k n e I) ∧ (R 138 0 = some k) ∧ (zWk n e M s I L) ∧ (wkGo s) ∧ (p < n) ∧ (s.2.1 < M.2.2.1) ∧ ((exEx e 3 (p + 2)).1 = 1) ∧ ((exEx e 3 (p + 2)).2.1 ≤ n) ∧ (p + 2 ≤ n) ∧ (97 ≤ e p ∧ e p ≤ 122) ∧ ∀ (v : Int) (I' : ZI) (L' : ZI), (v = ((exEx e 3 (p + 2)).2.1 + 1 : Nat)) → (zWk n e M (wk1 (wkSp s) p (e p - 97).toNat (exEx e 3 (p + 2)).2.2) I' L') → (∀ c j : Nat, ¬ c = 139 → ¬ c = 140 → ¬ c = 142 → ¬ c = 143 → L' c j = L c j) → (∀ c j : Nat, ¬ (c = 138 ∧ j = 3) → ¬ (c = 138 ∧ j = 6) → ¬ (c = 138 ∧ j = 8) → ¬ (c = 138 ∧ j = 10) → ¬ (c = 138 ∧ j = 11) → ¬ (c = 138 ∧ j = 12) → ¬ (c = 138 ∧ j = 13) → ¬ (c = 138 ∧ j = 14) → ¬ (c = 138 ∧ j = 15) → ¬ (c = 138 ∧ j = 16) → ¬ (c = 138 ∧ j = 17) → ¬ c = 144 → I' c j = I c j) → (∀ c j : Nat, ¬ c = 139 → ¬ c = 140 → ¬ c = 141 → ¬ c = 142 → ¬ c = 143 → L' c j = L c j) → Q (some (zvi (v))) I' L' R S
theorem sn_E_ws1 : ZSnd 29 4 38 T_E_ws1 := ZSnd.of (zT4_38 28) (by
  rintro args I L R S Q hz ⟨k, n, e, p, s, M, cc, dd, rfl, hS, hR, hD, hk, hE, hsc, hW, hgo, hp, hl, hg, hbp, hpo, hvr, hQ⟩
  have hk130 : 130 ≤ k := by omega
  have hk134 : k ≤ 134 := by omega
  obtain ⟨hE1, hE2, hE3⟩ := id hE
  have hn4 := hE2.1
  obtain ⟨⟨g11, g11b, g11c⟩, g12, g13, ⟨g3, g3b⟩, ⟨g6, g6b⟩, ⟨g8, g8b⟩, g10, g10b⟩ := zWk_n hW hgo
  refine And.intro rfl ?_
  refine And.intro (zA_138 hS) (zrdR (v := some k) hsc ?_)
  refine And.intro (zDX hD 0 rfl) ⟨_, sn_S_let.up (by decide), ?_⟩
  refine ⟨k, n, e, (p : Int), p, rfl, hS, hR, hD, (by first | exact hk | (clear hQ; grind [xu])), (by first | exact (zEt_fr hE (fun c j h => rfl)) | (clear hQ; grind [xu])), (by omega), ?_⟩
  intro v5o p5hv p5bhv2
  refine And.intro ⟨(by omega), (zRb rfl)⟩ ⟨fun h14 => ?_, (fun h14 => False.elim (by omega))⟩
  refine And.intro ⟨(by omega), (zRb rfl)⟩ ⟨fun h34 => ?_, (fun h34 => False.elim (by omega))⟩
  refine And.intro (zA_138 hS) (Exists.intro _ (And.intro (zinl_ok (zT4_25 27)) (And.intro rfl ?_)))
  refine And.intro (zA_138 hS) (zrd (v := (M.2.2.1 - s.2.1)) g11 ?_)
  refine And.intro (by omega) ⟨fun h4_46 => ?_, (fun h4_46 => False.elim (by omega))⟩
  refine And.intro (zA_138 hS) (zrd (v := (M.2.2.1 - s.2.1)) g11 ?_)
  refine And.intro (zA_138 hS) ⟨_, (zWi (by omega)), ?_⟩
  refine And.intro (Or.inr rfl) ?_
  refine And.intro (zRb rfl) (zbt rfl ?_)
  refine Exists.intro _ (And.intro (zinl_ok (zT8_7 27)) (And.intro rfl ?_))
  refine And.intro ⟨(by omega), (zRb rfl)⟩ ⟨(fun h3_56 => False.elim (by omega)), fun h3_56 => ?_⟩
  refine And.intro ⟨(by omega), (zRb rfl)⟩ ⟨fun h9_56 => ?_, (fun h9_56 => False.elim (by omega))⟩
  refine And.intro (Or.inl rfl) ?_
  refine And.intro (zRb rfl) (zbt rfl ?_)
  refine And.intro (by omega) (And.intro (fun h72 => False.elim (by omega)) (fun h72n0 => (And.intro (fun h72 => False.elim (by omega)) (fun h72n1 => (And.intro (fun h72 => False.elim (by omega)) (fun h72n2 => (And.intro (fun h72 => False.elim (by omega)) (fun h72n3 => (And.intro (fun h72 => False.elim (by omega)) (fun h72n4 => (And.intro (fun h72 => False.elim (by omega)) (fun h72n5 => (And.intro (fun h72 => False.elim (by omega)) (fun h72n6 => ?_))))))))))))))
  refine And.intro (zA_138 hS) ⟨_, sn_E_plv.up (by decide), ?_⟩
  refine ⟨k, n, e, p, s.1.1, rfl, hS, hR, hD, (by first | exact hk | (clear hQ; grind [xu])), (zEt_fr hE (fun c j h => (zxcj (by omega) rfl))), hsc, (zEv_fr hW.1 (fun c j h => (zxcj (by omega) rfl)) (fun c j h => rfl)), (by omega), hg, (by first | exact hbp | (clear hQ; grind [xu])), (by omega), g12, g13, ?_⟩
  intro v190o I190o L190o p190hv p190bhq p190bbfr p190bbbfrL
  refine hQ _ _ _ (by clear hQ; grind [xu]) (zWk_qs p190bhq hW (by omega) (fun c j h => zxcj (by omega) rfl) (zxe.trans (by omega)) (fun c j h => p190bbfr c j (by omega) (by omega) (by omega) (by omega) (by omega)) (fun j => p190bbbfrL 143 j (by omega))) (fun c j h0 h1 h2 h3 => ((p190bbbfrL c j h0).trans rfl)) (fun c j h0 h1 h2 h3 h4 h5 h6 h7 h8 h9 h10 h11 => ((p190bbfr c j h6 h7 h8 h9 h10).trans (zxcj h4 rfl))) (fun c j h0 h1 h2 h3 h4 => ((p190bbbfrL c j h0).trans rfl)))
def T_E_ws4 : ZT := fun args I L R S Q => ∃ (k : Nat) (n : Nat) (e : Nat → Int) (p : Nat) (s : WkS) (M : WkM) (cc : Int) (dd : Int), args = [zvr 138, zvi p, zvi cc, zvi dd] ∧ (zSh S) ∧ (zRs R) ∧ (zDy zT8 zF8 k R S) ∧ (k = 130 ∨ k = 134) ∧ (zEt k n e I) ∧ (R 138 0 = some k) ∧ (zWk n e M s I L) ∧ (wkGo s) ∧ (p < n) ∧ (s.2.1 < M.2.2.1) ∧ ((exEx e 3 (p + 1)).1 = 1) ∧ ((exEx e 3 (p + 1)).2.1 ≤ n) ∧ (p + 1 ≤ n) ∧ (e p = 33) ∧ ∀ (v : Int) (I' : ZI) (L' : ZI), (v = ((exEx e 3 (p + 1)).2.1 + 1 : Nat)) → (zWk n e M (wk4 (wkSp s) p (exEx e 3 (p + 1)).2.2) I' L') → (∀ c j : Nat, ¬ c = 139 → ¬ c = 140 → ¬ c = 142 → ¬ c = 143 → L' c j = L c j) → (∀ c j : Nat, ¬ (c = 138 ∧ j = 3) → ¬ (c = 138 ∧ j = 6) → ¬ (c = 138 ∧ j = 8) → ¬ (c = 138 ∧ j = 10) → ¬ (c = 138 ∧ j = 11) → ¬ (c = 138 ∧ j = 12) → ¬ (c = 138 ∧ j = 13) → ¬ (c = 138 ∧ j = 14) → ¬ (c = 138 ∧ j = 15) → ¬ (c = 138 ∧ j = 16) → ¬ (c = 138 ∧ j = 17) → ¬ c = 144 → I' c j = I c j) → (∀ c j : Nat, ¬ c = 139 → ¬ c = 140 → ¬ c = 141 → ¬ c = 142 → ¬ c = 143 → L' c j = L c j) → Q (some (zvi (v))) I' L' R S
theorem sn_E_ws4 : ZSnd 29 4 38 T_E_ws4 := ZSnd.of (zT4_38 28) (by
  rintro args I L R S Q hz ⟨k, n, e, p, s, M, cc, dd, rfl, hS, hR, hD, hk, hE, hsc, hW, hgo, hp, hl, hg, hbp, hpo, hvr, hQ⟩
  have hk130 : 130 ≤ k := by omega
  have hk134 : k ≤ 134 := by omega
  obtain ⟨hE1, hE2, hE3⟩ := id hE
  have hn4 := hE2.1
  obtain ⟨⟨g11, g11b, g11c⟩, g12, g13, ⟨g3, g3b⟩, ⟨g6, g6b⟩, ⟨g8, g8b⟩, g10, g10b⟩ := zWk_n hW hgo
  refine And.intro rfl ?_
  refine And.intro (zA_138 hS) (zrdR (v := some k) hsc ?_)
  refine And.intro (zDX hD 0 rfl) ⟨_, sn_S_let.up (by decide), ?_⟩
  refine ⟨k, n, e, (p : Int), p, rfl, hS, hR, hD, (by first | exact hk | (clear hQ; grind [xu])), (by first | exact (zEt_fr hE (fun c j h => rfl)) | (clear hQ; grind [xu])), (by omega), ?_⟩
  intro v5o p5hv p5bhv2
  refine And.intro ⟨(by omega), (zRb rfl)⟩ ⟨fun h14 => ?_, (fun h14 => False.elim (by omega))⟩
  refine And.intro ⟨(by omega), (zRb rfl)⟩ ⟨fun h34 => ?_, (fun h34 => False.elim (by omega))⟩
  refine And.intro (zA_138 hS) (Exists.intro _ (And.intro (zinl_ok (zT4_25 27)) (And.intro rfl ?_)))
  refine And.intro (zA_138 hS) (zrd (v := (M.2.2.1 - s.2.1)) g11 ?_)
  refine And.intro (by omega) ⟨fun h4_46 => ?_, (fun h4_46 => False.elim (by omega))⟩
  refine And.intro (zA_138 hS) (zrd (v := (M.2.2.1 - s.2.1)) g11 ?_)
  refine And.intro (zA_138 hS) ⟨_, (zWi (by omega)), ?_⟩
  refine And.intro (Or.inr rfl) ?_
  refine And.intro (zRb rfl) (zbt rfl ?_)
  refine Exists.intro _ (And.intro (zinl_ok (zT8_7 27)) (And.intro rfl ?_))
  refine And.intro ⟨(by omega), (zRb rfl)⟩ ⟨fun h3_56 => ?_, (fun h3_56 => False.elim (by omega))⟩
  refine And.intro (Or.inl rfl) ?_
  refine And.intro (zRb rfl) (zbt rfl ?_)
  refine And.intro (by omega) (And.intro (fun h72 => False.elim (by omega)) (fun h72n0 => (And.intro (fun h72 => False.elim (by omega)) (fun h72n1 => (And.intro (fun h72 => False.elim (by omega)) (fun h72n2 => (And.intro (fun h72 => False.elim (by omega)) (fun h72n3 => (And.intro (fun h72 => False.elim (by omega)) (fun h72n4 => (And.intro (fun h72 => False.elim (by omega)) (fun h72n5 => (And.intro (fun h72 => False.elim (by omega)) (fun h72n6 => ?_))))))))))))))
  refine And.intro (zA_138 hS) ⟨_, sn_E_plo.up (by decide), ?_⟩
  refine ⟨k, n, e, p, (wkSp s), M, rfl, hS, hR, hD, (by first | exact hk | (clear hQ; grind [xu])), (zEt_fr hE (fun c j h => (zxcj (by omega) rfl))), hsc, (zWk_sp hW (by omega) (fun c j h => (zxcj (by omega) rfl)) ((show _ = (((M.2.2.1 - s.2.1) - 1) : Int) from rfl).trans (by omega))), hgo, (by omega), hg, (by first | exact hbp | (clear hQ; grind [xu])), (by omega), ?_⟩
  intro v190o I190o L190o p190hv p190bhW p190bbfr p190bbbfrL
  refine hQ _ _ _ (by clear hQ; grind [xu]) p190bhW (fun c j h0 h1 h2 h3 => ((p190bbbfrL c j h3).trans rfl)) (fun c j h0 h1 h2 h3 h4 h5 h6 h7 h8 h9 h10 h11 => ((p190bbfr c j h0 h1 h2 h3 h4 h5 h6 h7 h8 h9 h10 h11).trans (zxcj h4 rfl))) (fun c j h0 h1 h2 h3 h4 => ((p190bbbfrL c j h4).trans rfl)))
def T_E_ws12 : ZT := fun args I L R S Q => ∃ (k : Nat) (n : Nat) (e : Nat → Int) (p : Nat) (s : WkS) (M : WkM) (cc : Int) (dd : Int), args = [zvr 138, zvi p, zvi cc, zvi dd] ∧ (zSh S) ∧ (zRs R) ∧ (zDy zT8 zF8 k R S) ∧ (k = 130 ∨ k = 134) ∧ (zEt k n e I) ∧ (R 138 0 = some k) ∧ (zWk n e M s I L) ∧ (wkGo s) ∧ (p < n) ∧ (s.2.1 < M.2.2.1) ∧ ((exEx e 3 (p + 1)).1 = 1) ∧ ((exEx e 3 (p + 1)).2.1 ≤ n) ∧ (p + 1 ≤ n) ∧ (e p = 94) ∧ ∀ (v : Int) (I' : ZI) (L' : ZI), (v = ((exEx e 3 (p + 1)).2.1 + 1 : Nat)) → (zWk n e M (wk12 (wkSp s) p (exEx e 3 (p + 1)).2.2) I' L') → (∀ c j : Nat, ¬ c = 139 → ¬ c = 140 → ¬ c = 142 → ¬ c = 143 → L' c j = L c j) → (∀ c j : Nat, ¬ (c = 138 ∧ j = 3) → ¬ (c = 138 ∧ j = 6) → ¬ (c = 138 ∧ j = 8) → ¬ (c = 138 ∧ j = 10) → ¬ (c = 138 ∧ j = 11) → ¬ (c = 138 ∧ j = 12) → ¬ (c = 138 ∧ j = 13) → ¬ (c = 138 ∧ j = 14) → ¬ (c = 138 ∧ j = 15) → ¬ (c = 138 ∧ j = 16) → ¬ (c = 138 ∧ j = 17) → ¬ c = 144 → I' c j = I c j) → (∀ c j : Nat, ¬ c = 139 → ¬ c = 140 → ¬ c = 141 → ¬ c = 142 → ¬ c = 143 → L' c j = L c j) → Q (some (zvi (v))) I' L' R S
theorem sn_E_ws12 : ZSnd 29 4 38 T_E_ws12 := ZSnd.of (zT4_38 28) (by
  rintro args I L R S Q hz ⟨k, n, e, p, s, M, cc, dd, rfl, hS, hR, hD, hk, hE, hsc, hW, hgo, hp, hl, hg, hbp, hpo, hvr, hQ⟩
  have hk130 : 130 ≤ k := by omega
  have hk134 : k ≤ 134 := by omega
  obtain ⟨hE1, hE2, hE3⟩ := id hE
  have hn4 := hE2.1
  obtain ⟨⟨g11, g11b, g11c⟩, g12, g13, ⟨g3, g3b⟩, ⟨g6, g6b⟩, ⟨g8, g8b⟩, g10, g10b⟩ := zWk_n hW hgo
  refine And.intro rfl ?_
  refine And.intro (zA_138 hS) (zrdR (v := some k) hsc ?_)
  refine And.intro (zDX hD 0 rfl) ⟨_, sn_S_let.up (by decide), ?_⟩
  refine ⟨k, n, e, (p : Int), p, rfl, hS, hR, hD, (by first | exact hk | (clear hQ; grind [xu])), (by first | exact (zEt_fr hE (fun c j h => rfl)) | (clear hQ; grind [xu])), (by omega), ?_⟩
  intro v5o p5hv p5bhv2
  refine And.intro ⟨(by omega), (zRb rfl)⟩ ⟨fun h14 => ?_, (fun h14 => False.elim (by omega))⟩
  refine And.intro ⟨(by omega), (zRb rfl)⟩ ⟨fun h34 => ?_, (fun h34 => False.elim (by omega))⟩
  refine And.intro (zA_138 hS) (Exists.intro _ (And.intro (zinl_ok (zT4_25 27)) (And.intro rfl ?_)))
  refine And.intro (zA_138 hS) (zrd (v := (M.2.2.1 - s.2.1)) g11 ?_)
  refine And.intro (by omega) ⟨fun h4_46 => ?_, (fun h4_46 => False.elim (by omega))⟩
  refine And.intro (zA_138 hS) (zrd (v := (M.2.2.1 - s.2.1)) g11 ?_)
  refine And.intro (zA_138 hS) ⟨_, (zWi (by omega)), ?_⟩
  refine And.intro (Or.inr rfl) ?_
  refine And.intro (zRb rfl) (zbt rfl ?_)
  refine Exists.intro _ (And.intro (zinl_ok (zT8_7 27)) (And.intro rfl ?_))
  refine And.intro ⟨(by omega), (zRb rfl)⟩ ⟨(fun h3_56 => False.elim (by omega)), fun h3_56 => ?_⟩
  refine And.intro ⟨(by omega), (zRb rfl)⟩ ⟨fun h9_56 => ?_, (fun h9_56 => False.elim (by omega))⟩
  refine And.intro (Or.inl rfl) ?_
  refine And.intro (zRb rfl) (zbt rfl ?_)
  refine And.intro (by omega) (And.intro (fun h72 => False.elim (by omega)) (fun h72n0 => (And.intro (fun h72 => False.elim (by omega)) (fun h72n1 => (And.intro (fun h72 => False.elim (by omega)) (fun h72n2 => (And.intro (fun h72 => False.elim (by omega)) (fun h72n3 => (And.intro (fun h72 => False.elim (by omega)) (fun h72n4 => (And.intro (fun h72 => False.elim (by omega)) (fun h72n5 => (And.intro (fun h72 => False.elim (by omega)) (fun h72n6 => ?_))))))))))))))
  refine And.intro (zA_138 hS) ⟨_, sn_E_plr.up (by decide), ?_⟩
  refine ⟨k, n, e, p, s.1.1, rfl, hS, hR, hD, (by first | exact hk | (clear hQ; grind [xu])), (zEt_fr hE (fun c j h => (zxcj (by omega) rfl))), hsc, (zEv_fr hW.1 (fun c j h => (zxcj (by omega) rfl)) (fun c j h => rfl)), (by omega), hg, (by first | exact hbp | (clear hQ; grind [xu])), (by omega), g12, g13, ?_⟩
  intro v190o I190o p190hv p190bhq p190bbfr
  refine hQ _ _ _ (by clear hQ; grind [xu]) (zWk_q2s p190bhq hW (by omega) (fun c j h => zxcj (by omega) rfl) (zxe.trans (by omega)) (fun c j h => p190bbfr c j (by omega) (by omega) (by omega) (by omega) (by omega)) (fun j => rfl)) (fun c j h0 h1 h2 h3 => rfl) (fun c j h0 h1 h2 h3 h4 h5 h6 h7 h8 h9 h10 h11 => ((p190bbfr c j h6 h7 h8 h9 h10).trans (zxcj h4 rfl))) (fun c j h0 h1 h2 h3 h4 => rfl))
def T_E_ws13Y : ZT := fun args I L R S Q => ∃ (k : Nat) (n : Nat) (e : Nat → Int) (p : Nat) (s : WkS) (M : WkM) (cc : Int) (dd : Int), args = [zvr 138, zvi p, zvi cc, zvi dd] ∧ (zSh S) ∧ (zRs R) ∧ (zDy zT8 zF8 k R S) ∧ (k = 130 ∨ k = 134) ∧ (zEt k n e I) ∧ (R 138 0 = some k) ∧ (zWk n e M s I L) ∧ (wkGo s) ∧ (p < n) ∧ (s.2.1 < M.2.2.1) ∧ ((exEx e 3 (p + 1)).1 = 1) ∧ ((exEx e 3 (p + 1)).2.1 ≤ n) ∧ (p + 1 ≤ n) ∧ (e p = 43) ∧ (s.1.1.2.1 < 12) ∧ ∀ (v : Int) (I' : ZI) (L' : ZI), (v = ((exEx e 3 (p + 1)).2.1 + 1 : Nat)) → (zWk n e M (wk13 (wkSp s) p (exEx e 3 (p + 1)).2.2) I' L') → (∀ c j : Nat, ¬ c = 139 → ¬ c = 140 → ¬ c = 142 → ¬ c = 143 → L' c j = L c j) → (∀ c j : Nat, ¬ (c = 138 ∧ j = 3) → ¬ (c = 138 ∧ j = 6) → ¬ (c = 138 ∧ j = 8) → ¬ (c = 138 ∧ j = 10) → ¬ (c = 138 ∧ j = 11) → ¬ (c = 138 ∧ j = 12) → ¬ (c = 138 ∧ j = 13) → ¬ (c = 138 ∧ j = 14) → ¬ (c = 138 ∧ j = 15) → ¬ (c = 138 ∧ j = 16) → ¬ (c = 138 ∧ j = 17) → ¬ c = 144 → I' c j = I c j) → (∀ c j : Nat, ¬ c = 139 → ¬ c = 140 → ¬ c = 141 → ¬ c = 142 → ¬ c = 143 → L' c j = L c j) → Q (some (zvi (v))) I' L' R S
theorem sn_E_ws13Y : ZSnd 29 4 38 T_E_ws13Y := ZSnd.of (zT4_38 28) (by
  rintro args I L R S Q hz ⟨k, n, e, p, s, M, cc, dd, rfl, hS, hR, hD, hk, hE, hsc, hW, hgo, hp, hl, hg, hbp, hpo, hvr, hn12, hQ⟩
  have hk130 : 130 ≤ k := by omega
  have hk134 : k ≤ 134 := by omega
  obtain ⟨hE1, hE2, hE3⟩ := id hE
  have hn4 := hE2.1
  obtain ⟨⟨g11, g11b, g11c⟩, g12, g13, ⟨g3, g3b⟩, ⟨g6, g6b⟩, ⟨g8, g8b⟩, g10, g10b⟩ := zWk_n hW hgo
  refine And.intro rfl ?_
  refine And.intro (zA_138 hS) (zrdR (v := some k) hsc ?_)
  refine And.intro (zDX hD 0 rfl) ⟨_, sn_S_let.up (by decide), ?_⟩
  refine ⟨k, n, e, (p : Int), p, rfl, hS, hR, hD, (by first | exact hk | (clear hQ; grind [xu])), (by first | exact (zEt_fr hE (fun c j h => rfl)) | (clear hQ; grind [xu])), (by omega), ?_⟩
  intro v5o p5hv p5bhv2
  refine And.intro ⟨(by omega), (zRb rfl)⟩ ⟨fun h14 => ?_, (fun h14 => False.elim (by omega))⟩
  refine And.intro ⟨(by omega), (zRb rfl)⟩ ⟨fun h34 => ?_, (fun h34 => False.elim (by omega))⟩
  refine And.intro (zA_138 hS) (Exists.intro _ (And.intro (zinl_ok (zT4_25 27)) (And.intro rfl ?_)))
  refine And.intro (zA_138 hS) (zrd (v := (M.2.2.1 - s.2.1)) g11 ?_)
  refine And.intro (by omega) ⟨fun h4_46 => ?_, (fun h4_46 => False.elim (by omega))⟩
  refine And.intro (zA_138 hS) (zrd (v := (M.2.2.1 - s.2.1)) g11 ?_)
  refine And.intro (zA_138 hS) ⟨_, (zWi (by omega)), ?_⟩
  refine And.intro (Or.inr rfl) ?_
  refine And.intro (zRb rfl) (zbt rfl ?_)
  refine Exists.intro _ (And.intro (zinl_ok (zT8_7 27)) (And.intro rfl ?_))
  refine And.intro ⟨(by omega), (zRb rfl)⟩ ⟨fun h3_56 => ?_, (fun h3_56 => False.elim (by omega))⟩
  refine And.intro (Or.inl rfl) ?_
  refine And.intro (zRb rfl) (zbt rfl ?_)
  refine And.intro (by omega) (And.intro (fun h72 => False.elim (by omega)) (fun h72n0 => (And.intro (fun h72 => False.elim (by omega)) (fun h72n1 => (And.intro (fun h72 => False.elim (by omega)) (fun h72n2 => (And.intro (fun h72 => False.elim (by omega)) (fun h72n3 => (And.intro (fun h72 => False.elim (by omega)) (fun h72n4 => (And.intro (fun h72 => False.elim (by omega)) (fun h72n5 => (And.intro (fun h72 => False.elim (by omega)) (fun h72n6 => ?_))))))))))))))
  refine And.intro (zA_138 hS) ⟨_, sn_E_pfY.up (by decide), ?_⟩
  refine ⟨k, n, e, p, s.1.1, rfl, hS, hR, hD, (by first | exact hk | (clear hQ; grind [xu])), (zEt_fr hE (fun c j h => (zxcj (by omega) rfl))), hsc, (zEv_fr hW.1 (fun c j h => (zxcj (by omega) rfl)) (fun c j h => rfl)), (by omega), hg, (by first | exact hbp | (clear hQ; grind [xu])), (by omega), (by omega), g12, g13, ?_⟩
  intro v190o I190o L190o p190hv p190bhq p190bbfr p190bbbfrL
  refine hQ _ _ _ (by clear hQ; grind [xu]) (zWk_x (zWk_qs p190bhq hW (by omega) (fun c j h => zxcj (by omega) rfl) (zxe.trans (by omega)) (fun c j h => p190bbfr c j (by omega) (by omega) (by omega) (by omega) (by omega) (by omega)) (fun j => p190bbbfrL 143 j (by omega))) (wk13_Y (s := wkSp s) (show ¬ s.1.1.2.1 = 12 by omega))) (fun c j h0 h1 h2 h3 => ((p190bbbfrL c j h1).trans rfl)) (fun c j h0 h1 h2 h3 h4 h5 h6 h7 h8 h9 h10 h11 => ((p190bbfr c j h6 h7 h8 h9 h10 h0).trans (zxcj h4 rfl))) (fun c j h0 h1 h2 h3 h4 => ((p190bbbfrL c j h1).trans rfl)))
def T_E_ws13N : ZT := fun args I L R S Q => ∃ (k : Nat) (n : Nat) (e : Nat → Int) (p : Nat) (s : WkS) (M : WkM) (cc : Int) (dd : Int), args = [zvr 138, zvi p, zvi cc, zvi dd] ∧ (zSh S) ∧ (zRs R) ∧ (zDy zT8 zF8 k R S) ∧ (k = 130 ∨ k = 134) ∧ (zEt k n e I) ∧ (R 138 0 = some k) ∧ (zWk n e M s I L) ∧ (wkGo s) ∧ (p < n) ∧ (s.2.1 < M.2.2.1) ∧ ((exEx e 3 (p + 1)).1 = 1) ∧ ((exEx e 3 (p + 1)).2.1 ≤ n) ∧ (p + 1 ≤ n) ∧ (e p = 43) ∧ (s.1.1.2.1 = 12) ∧ ∀ (v : Int) (I' : ZI) (L' : ZI), (v = ((exEx e 3 (p + 1)).2.1 + 1 : Nat)) → (zWk n e M (wk13 (wkSp s) p (exEx e 3 (p + 1)).2.2) I' L') → (∀ c j : Nat, ¬ c = 139 → ¬ c = 140 → ¬ c = 142 → ¬ c = 143 → L' c j = L c j) → (∀ c j : Nat, ¬ (c = 138 ∧ j = 3) → ¬ (c = 138 ∧ j = 6) → ¬ (c = 138 ∧ j = 8) → ¬ (c = 138 ∧ j = 10) → ¬ (c = 138 ∧ j = 11) → ¬ (c = 138 ∧ j = 12) → ¬ (c = 138 ∧ j = 13) → ¬ (c = 138 ∧ j = 14) → ¬ (c = 138 ∧ j = 15) → ¬ (c = 138 ∧ j = 16) → ¬ (c = 138 ∧ j = 17) → ¬ c = 144 → I' c j = I c j) → (∀ c j : Nat, ¬ c = 139 → ¬ c = 140 → ¬ c = 141 → ¬ c = 142 → ¬ c = 143 → L' c j = L c j) → Q (some (zvi (v))) I' L' R S
theorem sn_E_ws13N : ZSnd 29 4 38 T_E_ws13N := ZSnd.of (zT4_38 28) (by
  rintro args I L R S Q hz ⟨k, n, e, p, s, M, cc, dd, rfl, hS, hR, hD, hk, hE, hsc, hW, hgo, hp, hl, hg, hbp, hpo, hvr, hn12, hQ⟩
  have hk130 : 130 ≤ k := by omega
  have hk134 : k ≤ 134 := by omega
  obtain ⟨hE1, hE2, hE3⟩ := id hE
  have hn4 := hE2.1
  obtain ⟨⟨g11, g11b, g11c⟩, g12, g13, ⟨g3, g3b⟩, ⟨g6, g6b⟩, ⟨g8, g8b⟩, g10, g10b⟩ := zWk_n hW hgo
  refine And.intro rfl ?_
  refine And.intro (zA_138 hS) (zrdR (v := some k) hsc ?_)
  refine And.intro (zDX hD 0 rfl) ⟨_, sn_S_let.up (by decide), ?_⟩
  refine ⟨k, n, e, (p : Int), p, rfl, hS, hR, hD, (by first | exact hk | (clear hQ; grind [xu])), (by first | exact (zEt_fr hE (fun c j h => rfl)) | (clear hQ; grind [xu])), (by omega), ?_⟩
  intro v5o p5hv p5bhv2
  refine And.intro ⟨(by omega), (zRb rfl)⟩ ⟨fun h14 => ?_, (fun h14 => False.elim (by omega))⟩
  refine And.intro ⟨(by omega), (zRb rfl)⟩ ⟨fun h34 => ?_, (fun h34 => False.elim (by omega))⟩
  refine And.intro (zA_138 hS) (Exists.intro _ (And.intro (zinl_ok (zT4_25 27)) (And.intro rfl ?_)))
  refine And.intro (zA_138 hS) (zrd (v := (M.2.2.1 - s.2.1)) g11 ?_)
  refine And.intro (by omega) ⟨fun h4_46 => ?_, (fun h4_46 => False.elim (by omega))⟩
  refine And.intro (zA_138 hS) (zrd (v := (M.2.2.1 - s.2.1)) g11 ?_)
  refine And.intro (zA_138 hS) ⟨_, (zWi (by omega)), ?_⟩
  refine And.intro (Or.inr rfl) ?_
  refine And.intro (zRb rfl) (zbt rfl ?_)
  refine Exists.intro _ (And.intro (zinl_ok (zT8_7 27)) (And.intro rfl ?_))
  refine And.intro ⟨(by omega), (zRb rfl)⟩ ⟨fun h3_56 => ?_, (fun h3_56 => False.elim (by omega))⟩
  refine And.intro (Or.inl rfl) ?_
  refine And.intro (zRb rfl) (zbt rfl ?_)
  refine And.intro (by omega) (And.intro (fun h72 => False.elim (by omega)) (fun h72n0 => (And.intro (fun h72 => False.elim (by omega)) (fun h72n1 => (And.intro (fun h72 => False.elim (by omega)) (fun h72n2 => (And.intro (fun h72 => False.elim (by omega)) (fun h72n3 => (And.intro (fun h72 => False.elim (by omega)) (fun h72n4 => (And.intro (fun h72 => False.elim (by omega)) (fun h72n5 => (And.intro (fun h72 => False.elim (by omega)) (fun h72n6 => ?_))))))))))))))
  refine And.intro (zA_138 hS) ⟨_, sn_E_pfN.up (by decide), ?_⟩
  refine ⟨k, n, e, p, s.1.1, rfl, hS, hR, hD, (by first | exact hk | (clear hQ; grind [xu])), (zEt_fr hE (fun c j h => (zxcj (by omega) rfl))), hsc, (zEv_fr hW.1 (fun c j h => (zxcj (by omega) rfl)) (fun c j h => rfl)), (by omega), hg, (by first | exact hbp | (clear hQ; grind [xu])), (by omega), (by omega), g12, g13, ?_⟩
  intro v190o I190o p190hv p190bhq p190bbfr
  refine hQ _ _ _ (by clear hQ; grind [xu]) (zWk_x (zWk_q2s p190bhq hW (by omega) (fun c j h => zxcj (by omega) rfl) (zxe.trans (by omega)) (fun c j h => p190bbfr c j (by omega) (by omega) (by omega) (by omega) (by omega)) (fun j => rfl)) (wk13_N (s := wkSp s) (show s.1.1.2.1 = 12 by omega))) (fun c j h0 h1 h2 h3 => rfl) (fun c j h0 h1 h2 h3 h4 h5 h6 h7 h8 h9 h10 h11 => ((p190bbfr c j h6 h7 h8 h9 h10).trans (zxcj h4 rfl))) (fun c j h0 h1 h2 h3 h4 => rfl))
def T_E_ws16Y : ZT := fun args I L R S Q => ∃ (k : Nat) (n : Nat) (e : Nat → Int) (p : Nat) (s : WkS) (M : WkM) (cc : Int) (dd : Int), args = [zvr 138, zvi p, zvi cc, zvi dd] ∧ (zSh S) ∧ (zRs R) ∧ (zDy zT8 zF8 k R S) ∧ (k = 130 ∨ k = 134) ∧ (zEt k n e I) ∧ (R 138 0 = some k) ∧ (zWk n e M s I L) ∧ (wkGo s) ∧ (p < n) ∧ (s.2.1 < M.2.2.1) ∧ ((exEx e 3 (p + 1)).1 = 1) ∧ ((exEx e 3 (p + 1)).2.1 ≤ n) ∧ (p + 1 ≤ n) ∧ (e p = 60) ∧ (0 ≤ evV s.1.1 (exEx e 3 (p + 1)).2.2 ∧ evV s.1.1 (exEx e 3 (p + 1)).2.2 ≤ 20) ∧ ∀ (v : Int) (I' : ZI) (L' : ZI), (v = ((exEx e 3 (p + 1)).2.1 + 1 : Nat)) → (zWk n e M (wk16 (wkSp s) p (exEx e 3 (p + 1)).2.2) I' L') → (∀ c j : Nat, ¬ c = 139 → ¬ c = 140 → ¬ c = 142 → ¬ c = 143 → L' c j = L c j) → (∀ c j : Nat, ¬ (c = 138 ∧ j = 3) → ¬ (c = 138 ∧ j = 6) → ¬ (c = 138 ∧ j = 8) → ¬ (c = 138 ∧ j = 10) → ¬ (c = 138 ∧ j = 11) → ¬ (c = 138 ∧ j = 12) → ¬ (c = 138 ∧ j = 13) → ¬ (c = 138 ∧ j = 14) → ¬ (c = 138 ∧ j = 15) → ¬ (c = 138 ∧ j = 16) → ¬ (c = 138 ∧ j = 17) → ¬ c = 144 → I' c j = I c j) → (∀ c j : Nat, ¬ c = 139 → ¬ c = 140 → ¬ c = 141 → ¬ c = 142 → ¬ c = 143 → L' c j = L c j) → Q (some (zvi (v))) I' L' R S
theorem sn_E_ws16Y : ZSnd 29 4 38 T_E_ws16Y := ZSnd.of (zT4_38 28) (by
  rintro args I L R S Q hz ⟨k, n, e, p, s, M, cc, dd, rfl, hS, hR, hD, hk, hE, hsc, hW, hgo, hp, hl, hg, hbp, hpo, hvr, hn12, hQ⟩
  have hk130 : 130 ≤ k := by omega
  have hk134 : k ≤ 134 := by omega
  obtain ⟨hE1, hE2, hE3⟩ := id hE
  have hn4 := hE2.1
  obtain ⟨⟨g11, g11b, g11c⟩, g12, g13, ⟨g3, g3b⟩, ⟨g6, g6b⟩, ⟨g8, g8b⟩, g10, g10b⟩ := zWk_n hW hgo
  refine And.intro rfl ?_
  refine And.intro (zA_138 hS) (zrdR (v := some k) hsc ?_)
  refine And.intro (zDX hD 0 rfl) ⟨_, sn_S_let.up (by decide), ?_⟩
  refine ⟨k, n, e, (p : Int), p, rfl, hS, hR, hD, (by first | exact hk | (clear hQ; grind [xu])), (by first | exact (zEt_fr hE (fun c j h => rfl)) | (clear hQ; grind [xu])), (by omega), ?_⟩
  intro v5o p5hv p5bhv2
  refine And.intro ⟨(by omega), (zRb rfl)⟩ ⟨fun h14 => ?_, (fun h14 => False.elim (by omega))⟩
  refine And.intro ⟨(by omega), (zRb rfl)⟩ ⟨fun h34 => ?_, (fun h34 => False.elim (by omega))⟩
  refine And.intro (zA_138 hS) (Exists.intro _ (And.intro (zinl_ok (zT4_25 27)) (And.intro rfl ?_)))
  refine And.intro (zA_138 hS) (zrd (v := (M.2.2.1 - s.2.1)) g11 ?_)
  refine And.intro (by omega) ⟨fun h4_46 => ?_, (fun h4_46 => False.elim (by omega))⟩
  refine And.intro (zA_138 hS) (zrd (v := (M.2.2.1 - s.2.1)) g11 ?_)
  refine And.intro (zA_138 hS) ⟨_, (zWi (by omega)), ?_⟩
  refine And.intro (Or.inr rfl) ?_
  refine And.intro (zRb rfl) (zbt rfl ?_)
  refine Exists.intro _ (And.intro (zinl_ok (zT8_7 27)) (And.intro rfl ?_))
  refine And.intro ⟨(by omega), (zRb rfl)⟩ ⟨fun h3_56 => ?_, (fun h3_56 => False.elim (by omega))⟩
  refine And.intro (Or.inl rfl) ?_
  refine And.intro (zRb rfl) (zbt rfl ?_)
  refine And.intro (by omega) (And.intro (fun h72 => False.elim (by omega)) (fun h72n0 => (And.intro (fun h72 => False.elim (by omega)) (fun h72n1 => (And.intro (fun h72 => False.elim (by omega)) (fun h72n2 => (And.intro (fun h72 => False.elim (by omega)) (fun h72n3 => (And.intro (fun h72 => False.elim (by omega)) (fun h72n4 => (And.intro (fun h72 => False.elim (by omega)) (fun h72n5 => (And.intro (fun h72 => False.elim (by omega)) (fun h72n6 => ?_))))))))))))))
  refine And.intro (zA_138 hS) ⟨_, sn_E_pmY.up (by decide), ?_⟩
  refine ⟨k, n, e, p, s.1.1, rfl, hS, hR, hD, (by first | exact hk | (clear hQ; grind [xu])), (zEt_fr hE (fun c j h => (zxcj (by omega) rfl))), hsc, (zEv_fr hW.1 (fun c j h => (zxcj (by omega) rfl)) (fun c j h => rfl)), (by omega), hg, (by first | exact hbp | (clear hQ; grind [xu])), (by omega), hn12, g12, g13, ?_⟩
  intro v190o I190o L190o p190hv p190bhq p190bbfr p190bbbfrL
  refine hQ _ _ _ (by clear hQ; grind [xu]) (zWk_x (zWk_qs p190bhq hW (by omega) (fun c j h => zxcj (by omega) rfl) (zxe.trans (by omega)) (fun c j h => p190bbfr c j (by omega) (by omega) (by omega) (by omega) (by omega) (by omega)) (fun j => p190bbbfrL 143 j (by omega))) (wk16_Y (s := wkSp s) (show ¬ (evV s.1.1 (exEx e 3 (p + 1)).2.2 < 0 ∨ 20 < evV s.1.1 (exEx e 3 (p + 1)).2.2) by omega))) (fun c j h0 h1 h2 h3 => ((p190bbbfrL c j h2).trans rfl)) (fun c j h0 h1 h2 h3 h4 h5 h6 h7 h8 h9 h10 h11 => ((p190bbfr c j h6 h7 h8 h9 h10 h1).trans (zxcj h4 rfl))) (fun c j h0 h1 h2 h3 h4 => ((p190bbbfrL c j h3).trans rfl)))
def T_E_ws16N : ZT := fun args I L R S Q => ∃ (k : Nat) (n : Nat) (e : Nat → Int) (p : Nat) (s : WkS) (M : WkM) (cc : Int) (dd : Int), args = [zvr 138, zvi p, zvi cc, zvi dd] ∧ (zSh S) ∧ (zRs R) ∧ (zDy zT8 zF8 k R S) ∧ (k = 130 ∨ k = 134) ∧ (zEt k n e I) ∧ (R 138 0 = some k) ∧ (zWk n e M s I L) ∧ (wkGo s) ∧ (p < n) ∧ (s.2.1 < M.2.2.1) ∧ ((exEx e 3 (p + 1)).1 = 1) ∧ ((exEx e 3 (p + 1)).2.1 ≤ n) ∧ (p + 1 ≤ n) ∧ (e p = 60) ∧ (evV s.1.1 (exEx e 3 (p + 1)).2.2 < 0 ∨ 20 < evV s.1.1 (exEx e 3 (p + 1)).2.2) ∧ ∀ (v : Int) (I' : ZI) (L' : ZI), (v = ((exEx e 3 (p + 1)).2.1 + 1 : Nat)) → (zWk n e M (wk16 (wkSp s) p (exEx e 3 (p + 1)).2.2) I' L') → (∀ c j : Nat, ¬ c = 139 → ¬ c = 140 → ¬ c = 142 → ¬ c = 143 → L' c j = L c j) → (∀ c j : Nat, ¬ (c = 138 ∧ j = 3) → ¬ (c = 138 ∧ j = 6) → ¬ (c = 138 ∧ j = 8) → ¬ (c = 138 ∧ j = 10) → ¬ (c = 138 ∧ j = 11) → ¬ (c = 138 ∧ j = 12) → ¬ (c = 138 ∧ j = 13) → ¬ (c = 138 ∧ j = 14) → ¬ (c = 138 ∧ j = 15) → ¬ (c = 138 ∧ j = 16) → ¬ (c = 138 ∧ j = 17) → ¬ c = 144 → I' c j = I c j) → (∀ c j : Nat, ¬ c = 139 → ¬ c = 140 → ¬ c = 141 → ¬ c = 142 → ¬ c = 143 → L' c j = L c j) → Q (some (zvi (v))) I' L' R S
theorem sn_E_ws16N : ZSnd 29 4 38 T_E_ws16N := ZSnd.of (zT4_38 28) (by
  rintro args I L R S Q hz ⟨k, n, e, p, s, M, cc, dd, rfl, hS, hR, hD, hk, hE, hsc, hW, hgo, hp, hl, hg, hbp, hpo, hvr, hn12, hQ⟩
  have hk130 : 130 ≤ k := by omega
  have hk134 : k ≤ 134 := by omega
  obtain ⟨hE1, hE2, hE3⟩ := id hE
  have hn4 := hE2.1
  obtain ⟨⟨g11, g11b, g11c⟩, g12, g13, ⟨g3, g3b⟩, ⟨g6, g6b⟩, ⟨g8, g8b⟩, g10, g10b⟩ := zWk_n hW hgo
  refine And.intro rfl ?_
  refine And.intro (zA_138 hS) (zrdR (v := some k) hsc ?_)
  refine And.intro (zDX hD 0 rfl) ⟨_, sn_S_let.up (by decide), ?_⟩
  refine ⟨k, n, e, (p : Int), p, rfl, hS, hR, hD, (by first | exact hk | (clear hQ; grind [xu])), (by first | exact (zEt_fr hE (fun c j h => rfl)) | (clear hQ; grind [xu])), (by omega), ?_⟩
  intro v5o p5hv p5bhv2
  refine And.intro ⟨(by omega), (zRb rfl)⟩ ⟨fun h14 => ?_, (fun h14 => False.elim (by omega))⟩
  refine And.intro ⟨(by omega), (zRb rfl)⟩ ⟨fun h34 => ?_, (fun h34 => False.elim (by omega))⟩
  refine And.intro (zA_138 hS) (Exists.intro _ (And.intro (zinl_ok (zT4_25 27)) (And.intro rfl ?_)))
  refine And.intro (zA_138 hS) (zrd (v := (M.2.2.1 - s.2.1)) g11 ?_)
  refine And.intro (by omega) ⟨fun h4_46 => ?_, (fun h4_46 => False.elim (by omega))⟩
  refine And.intro (zA_138 hS) (zrd (v := (M.2.2.1 - s.2.1)) g11 ?_)
  refine And.intro (zA_138 hS) ⟨_, (zWi (by omega)), ?_⟩
  refine And.intro (Or.inr rfl) ?_
  refine And.intro (zRb rfl) (zbt rfl ?_)
  refine Exists.intro _ (And.intro (zinl_ok (zT8_7 27)) (And.intro rfl ?_))
  refine And.intro ⟨(by omega), (zRb rfl)⟩ ⟨fun h3_56 => ?_, (fun h3_56 => False.elim (by omega))⟩
  refine And.intro (Or.inl rfl) ?_
  refine And.intro (zRb rfl) (zbt rfl ?_)
  refine And.intro (by omega) (And.intro (fun h72 => False.elim (by omega)) (fun h72n0 => (And.intro (fun h72 => False.elim (by omega)) (fun h72n1 => (And.intro (fun h72 => False.elim (by omega)) (fun h72n2 => (And.intro (fun h72 => False.elim (by omega)) (fun h72n3 => (And.intro (fun h72 => False.elim (by omega)) (fun h72n4 => (And.intro (fun h72 => False.elim (by omega)) (fun h72n5 => (And.intro (fun h72 => False.elim (by omega)) (fun h72n6 => ?_))))))))))))))
  refine And.intro (zA_138 hS) ⟨_, sn_E_pmN.up (by decide), ?_⟩
  refine ⟨k, n, e, p, s.1.1, rfl, hS, hR, hD, (by first | exact hk | (clear hQ; grind [xu])), (zEt_fr hE (fun c j h => (zxcj (by omega) rfl))), hsc, (zEv_fr hW.1 (fun c j h => (zxcj (by omega) rfl)) (fun c j h => rfl)), (by omega), hg, (by first | exact hbp | (clear hQ; grind [xu])), (by omega), hn12, g12, g13, ?_⟩
  intro v190o I190o p190hv p190bhq p190bbfr
  refine hQ _ _ _ (by clear hQ; grind [xu]) (zWk_x (zWk_q2s p190bhq hW (by omega) (fun c j h => zxcj (by omega) rfl) (zxe.trans (by omega)) (fun c j h => p190bbfr c j (by omega) (by omega) (by omega) (by omega) (by omega)) (fun j => rfl)) (wk16_N (s := wkSp s) hn12)) (fun c j h0 h1 h2 h3 => rfl) (fun c j h0 h1 h2 h3 h4 h5 h6 h7 h8 h9 h10 h11 => ((p190bbfr c j h6 h7 h8 h9 h10).trans (zxcj h4 rfl))) (fun c j h0 h1 h2 h3 h4 => rfl))
