/-! uc -/
def T_E_ws2 : ZT := fun args I L R S Q => ∃ (k : Nat) (n : Nat) (e : Nat → Int) (p : Nat) (s : WkS) (M : WkM) (cc : Int) (dd : Int), args = [zvr 138, zvi p, zvi cc, zvi dd] ∧ (zSh S) ∧ (zRs R) ∧ (zDy zT8 zF8 k R S) ∧ (k = 130 ∨ k = 134) ∧ (zEt k n e I) ∧ (R 138 0 = some k) ∧ (zWk n e M s I L) ∧ (wkGo s) ∧ (p < n) ∧ (s.2.1 < M.2.2.1) ∧ ((exAt e 3 (p + 1)).1 = 1) ∧ ((exEx e 3 ((exAt e 3 (p + 1)).2.1 + 3)).1 = 1) ∧ ((exAt e 3 (p + 1)).2.1 + 3 ≤ n) ∧ (48 ≤ e ((exAt e 3 (p + 1)).2.1 + 1) ∧ e ((exAt e 3 (p + 1)).2.1 + 1) ≤ 53) ∧ ((exEx e 3 ((exAt e 3 (p + 1)).2.1 + 3)).2.1 ≤ n) ∧ (e p = 64) ∧ ∀ (v : Int) (I' : ZI) (L' : ZI), (v = ((exEx e 3 ((exAt e 3 (p + 1)).2.1 + 3)).2.1 + 1 : Nat)) → (zWk n e M (wk2 (wkSp s) p (e ((exAt e 3 (p + 1)).2.1 + 1) - 48).toNat (exAt e 3 (p + 1)).2.2 (exEx e 3 ((exAt e 3 (p + 1)).2.1 + 3)).2.2) I' L') → (∀ c j : Nat, ¬ c = 139 → ¬ c = 140 → ¬ c = 142 → ¬ c = 143 → L' c j = L c j) → (∀ c j : Nat, ¬ (c = 138 ∧ j = 3) → ¬ (c = 138 ∧ j = 6) → ¬ (c = 138 ∧ j = 8) → ¬ (c = 138 ∧ j = 10) → ¬ (c = 138 ∧ j = 11) → ¬ (c = 138 ∧ j = 12) → ¬ (c = 138 ∧ j = 13) → ¬ (c = 138 ∧ j = 14) → ¬ (c = 138 ∧ j = 15) → ¬ (c = 138 ∧ j = 16) → ¬ (c = 138 ∧ j = 17) → ¬ c = 144 → I' c j = I c j) → (∀ c j : Nat, ¬ c = 139 → ¬ c = 140 → ¬ c = 141 → ¬ c = 142 → ¬ c = 143 → L' c j = L c j) → Q (some (zvi (v))) I' L' R S
theorem sn_E_ws2 : ZSnd 29 4 38 T_E_ws2 := ZSnd.of (zT4_38 28) (by
  rintro args I L R S Q hz ⟨k, n, e, p, s, M, cc, dd, rfl, hS, hR, hD, hk, hE, hsc, hW, hgo, hp, hl, hg, hg2, hap, hdg, hbp, hvr, hQ⟩
  have hk130 : 130 ≤ k := by omega
  have hk134 : k ≤ 134 := by omega
  obtain ⟨hE1, hE2, hE3⟩ := id hE
  have hn4 := hE2.1
  obtain ⟨⟨g11, g11b, g11c⟩, g12, g13, ⟨g3, g3b⟩, ⟨g6, g6b⟩, ⟨g8, g8b⟩, g10, g10b⟩ := zWk_n hW hgo
  refine And.intro rfl ?_
  refine And.intro (zA_138 hS) (zrdR (v := some k) hsc ?_)
  refine And.intro (zDX hD 0 rfl) ⟨_, sn_S_let.up (by decide), ?_⟩
  refine ⟨k, n, e, (p : Int), p, rfl, hS, hR, hD, (by first | exact hk | (clear hQ; grind [xu])), (by first | exact (zEt_fr hE (fun c j h => rfl)) | (clear hQ; grind [xu])), (by omega), ?_⟩
  intro v5o p5hv p5bhv2
  refine And.intro ⟨(by omega), (zRb rfl)⟩ ⟨fun h14 => ?_, (fun h14 => False.elim (by omega))⟩
  refine And.intro ⟨(by omega), (zRb rfl)⟩ ⟨fun h34 => ?_, (fun h34 => False.elim (by omega))⟩
  refine And.intro (zA_138 hS) (Exists.intro _ (And.intro (zinl_ok (zT4_25 27)) (And.intro rfl ?_)))
  refine And.intro (zA_138 hS) (zrd (v := (M.2.2.1 - s.2.1)) g11 ?_)
  refine And.intro (by omega) ⟨fun h4_46 => ?_, (fun h4_46 => False.elim (by omega))⟩
  refine And.intro (zA_138 hS) (zrd (v := (M.2.2.1 - s.2.1)) g11 ?_)
  refine And.intro (zA_138 hS) ⟨_, (zWi (by omega)), ?_⟩
  refine And.intro (Or.inr rfl) ?_
  refine And.intro (zRb rfl) (zbt rfl ?_)
  refine Exists.intro _ (And.intro (zinl_ok (zT8_7 27)) (And.intro rfl ?_))
  refine And.intro ⟨(by omega), (zRb rfl)⟩ ⟨fun h3_56 => ?_, (fun h3_56 => False.elim (by omega))⟩
  refine And.intro (Or.inl rfl) ?_
  refine And.intro (zRb rfl) (zbt rfl ?_)
  refine And.intro (by omega) (And.intro (fun h72 => False.elim (by omega)) (fun h72n0 => (And.intro (fun h72 => False.elim (by omega)) (fun h72n1 => (And.intro (fun h72 => False.elim (by omega)) (fun h72n2 => (And.intro (fun h72 => ?_) (fun h72n3 => (And.intro (fun h72 => False.elim (by omega)) (fun h72n4 => (And.intro (fun h72 => False.elim (by omega)) (fun h72n5 => (And.intro (fun h72 => False.elim (by omega)) (fun h72n6 => (False.elim (by omega))))))))))))))))
  refine And.intro (zA_138 hS) ⟨_, sn_E_sfd.up (by decide), ?_⟩
  refine ⟨k, n, e, p, s.1.1, rfl, hS, hR, hD, (by first | exact hk | (clear hQ; grind [xu])), (zEt_fr hE (fun c j h => (zxcj (by omega) rfl))), hsc, (zEv_fr hW.1 (fun c j h => (zxcj (by omega) rfl)) (fun c j h => rfl)), (by omega), hg, hg2, (by first | exact hap | (clear hQ; grind [xu])), hdg, hbp, ?_⟩
  intro v166o I166o L166o p166hv p166bhq p166bbfr p166bbbfrL
  refine hQ _ _ _ p166hv (zWk_qs (E2 := evSf s.1.1 (6 * (evV s.1.1 (exAt e 3 (p + 1)).2.2).toNat + (e ((exAt e 3 (p + 1)).2.1 + 1) - 48).toNat) (evV s.1.1 (exEx e 3 ((exAt e 3 (p + 1)).2.1 + 3)).2.2)) (p166bhq.imp (fun w => ⟨w.1, by rw [← wk2_ix w.1 hdg]; exact w.2.1, w.2.2⟩) id) hW (by omega) (fun c j h => zxcj (by omega) rfl) (zxe.trans (by omega)) (fun c j h => p166bbfr c j (by omega) (by omega) (by omega) (by omega) (by omega)) (fun j => p166bbbfrL 143 j (by omega))) (fun c j h0 h1 h2 h3 => ((p166bbbfrL c j h1).trans rfl)) (fun c j h0 h1 h2 h3 h4 h5 h6 h7 h8 h9 h10 h11 => ((p166bbfr c j h6 h7 h8 h9 h10).trans (zxcj h4 rfl))) (fun c j h0 h1 h2 h3 h4 => ((p166bbbfrL c j h1).trans rfl)))
def T_E_ws3 : ZT := fun args I L R S Q => ∃ (k : Nat) (n : Nat) (e : Nat → Int) (p : Nat) (s : WkS) (M : WkM) (cc : Int) (dd : Int), args = [zvr 138, zvi p, zvi cc, zvi dd] ∧ (zSh S) ∧ (zRs R) ∧ (zDy zT8 zF8 k R S) ∧ (k = 130 ∨ k = 134) ∧ (zEt k n e I) ∧ (R 138 0 = some k) ∧ (zWk n e M s I L) ∧ (wkGo s) ∧ (p < n) ∧ (s.2.1 < M.2.2.1) ∧ ((exAt e 3 (p + 1)).1 = 1) ∧ ((exEx e 3 ((exAt e 3 (p + 1)).2.1 + 1)).1 = 1) ∧ ((exAt e 3 (p + 1)).2.1 < n) ∧ ((exEx e 3 ((exAt e 3 (p + 1)).2.1 + 1)).2.1 ≤ n) ∧ (e p = 39) ∧ ∀ (v : Int) (I' : ZI) (L' : ZI), (v = ((exEx e 3 ((exAt e 3 (p + 1)).2.1 + 1)).2.1 + 1 : Nat)) → (zWk n e M (wk3 (wkSp s) p (exAt e 3 (p + 1)).2.2 (exEx e 3 ((exAt e 3 (p + 1)).2.1 + 1)).2.2) I' L') → (∀ c j : Nat, ¬ c = 139 → ¬ c = 140 → ¬ c = 142 → ¬ c = 143 → L' c j = L c j) → (∀ c j : Nat, ¬ (c = 138 ∧ j = 3) → ¬ (c = 138 ∧ j = 6) → ¬ (c = 138 ∧ j = 8) → ¬ (c = 138 ∧ j = 10) → ¬ (c = 138 ∧ j = 11) → ¬ (c = 138 ∧ j = 12) → ¬ (c = 138 ∧ j = 13) → ¬ (c = 138 ∧ j = 14) → ¬ (c = 138 ∧ j = 15) → ¬ (c = 138 ∧ j = 16) → ¬ (c = 138 ∧ j = 17) → ¬ c = 144 → I' c j = I c j) → (∀ c j : Nat, ¬ c = 139 → ¬ c = 140 → ¬ c = 141 → ¬ c = 142 → ¬ c = 143 → L' c j = L c j) → Q (some (zvi (v))) I' L' R S
theorem sn_E_ws3 : ZSnd 29 4 38 T_E_ws3 := ZSnd.of (zT4_38 28) (by
  rintro args I L R S Q hz ⟨k, n, e, p, s, M, cc, dd, rfl, hS, hR, hD, hk, hE, hsc, hW, hgo, hp, hl, hg, hg2, hap, hbp, hvr, hQ⟩
  have hk130 : 130 ≤ k := by omega
  have hk134 : k ≤ 134 := by omega
  obtain ⟨hE1, hE2, hE3⟩ := id hE
  have hn4 := hE2.1
  obtain ⟨⟨g11, g11b, g11c⟩, g12, g13, ⟨g3, g3b⟩, ⟨g6, g6b⟩, ⟨g8, g8b⟩, g10, g10b⟩ := zWk_n hW hgo
  refine And.intro rfl ?_
  refine And.intro (zA_138 hS) (zrdR (v := some k) hsc ?_)
  refine And.intro (zDX hD 0 rfl) ⟨_, sn_S_let.up (by decide), ?_⟩
  refine ⟨k, n, e, (p : Int), p, rfl, hS, hR, hD, (by first | exact hk | (clear hQ; grind [xu])), (by first | exact (zEt_fr hE (fun c j h => rfl)) | (clear hQ; grind [xu])), (by omega), ?_⟩
  intro v5o p5hv p5bhv2
  refine And.intro ⟨(by omega), (zRb rfl)⟩ ⟨fun h14 => ?_, (fun h14 => False.elim (by omega))⟩
  refine And.intro ⟨(by omega), (zRb rfl)⟩ ⟨fun h34 => ?_, (fun h34 => False.elim (by omega))⟩
  refine And.intro (zA_138 hS) (Exists.intro _ (And.intro (zinl_ok (zT4_25 27)) (And.intro rfl ?_)))
  refine And.intro (zA_138 hS) (zrd (v := (M.2.2.1 - s.2.1)) g11 ?_)
  refine And.intro (by omega) ⟨fun h4_46 => ?_, (fun h4_46 => False.elim (by omega))⟩
  refine And.intro (zA_138 hS) (zrd (v := (M.2.2.1 - s.2.1)) g11 ?_)
  refine And.intro (zA_138 hS) ⟨_, (zWi (by omega)), ?_⟩
  refine And.intro (Or.inr rfl) ?_
  refine And.intro (zRb rfl) (zbt rfl ?_)
  refine Exists.intro _ (And.intro (zinl_ok (zT8_7 27)) (And.intro rfl ?_))
  refine And.intro ⟨(by omega), (zRb rfl)⟩ ⟨fun h3_56 => ?_, (fun h3_56 => False.elim (by omega))⟩
  refine And.intro (Or.inl rfl) ?_
  refine And.intro (zRb rfl) (zbt rfl ?_)
  refine And.intro (by omega) (And.intro (fun h72 => False.elim (by omega)) (fun h72n0 => (And.intro (fun h72 => ?_) (fun h72n1 => (And.intro (fun h72 => False.elim (by omega)) (fun h72n2 => (And.intro (fun h72 => False.elim (by omega)) (fun h72n3 => (And.intro (fun h72 => False.elim (by omega)) (fun h72n4 => (And.intro (fun h72 => False.elim (by omega)) (fun h72n5 => (And.intro (fun h72 => False.elim (by omega)) (fun h72n6 => (False.elim (by omega))))))))))))))))
  refine And.intro (zA_138 hS) ⟨_, sn_E_spl.up (by decide), ?_⟩
  refine ⟨k, n, e, p, s.1.1, rfl, hS, hR, hD, (by first | exact hk | (clear hQ; grind [xu])), (zEt_fr hE (fun c j h => (zxcj (by omega) rfl))), hsc, (zEv_fr hW.1 (fun c j h => (zxcj (by omega) rfl)) (fun c j h => rfl)), (by omega), hg, hg2, (by first | exact hap | (clear hQ; grind [xu])), hbp, ?_⟩
  intro v172o I172o L172o p172hv p172bhq p172bbfr p172bbbfrL
  refine hQ _ _ _ p172hv (zWk_qs p172bhq hW (by omega) (fun c j h => zxcj (by omega) rfl) (zxe.trans (by omega)) (fun c j h => p172bbfr c j (by omega) (by omega) (by omega) (by omega) (by omega)) (fun j => p172bbbfrL 143 j (by omega))) (fun c j h0 h1 h2 h3 => ((p172bbbfrL c j h2).trans rfl)) (fun c j h0 h1 h2 h3 h4 h5 h6 h7 h8 h9 h10 h11 => ((p172bbfr c j h6 h7 h8 h9 h10).trans (zxcj h4 rfl))) (fun c j h0 h1 h2 h3 h4 => ((p172bbbfrL c j h3).trans rfl)))
def T_E_ws14 : ZT := fun args I L R S Q => ∃ (k : Nat) (n : Nat) (e : Nat → Int) (p : Nat) (s : WkS) (M : WkM) (cc : Int) (dd : Int) (i : Nat), args = [zvr 138, zvi p, zvi cc, zvi dd] ∧ (zSh S) ∧ (zRs R) ∧ (zDy zT8 zF8 k R S) ∧ (k = 130 ∨ k = 134) ∧ (zEt k n e I) ∧ (R 138 0 = some k) ∧ (zWk n e M s I L) ∧ (wkGo s) ∧ (p < n) ∧ (s.2.1 < M.2.2.1) ∧ ((exEx e 3 (p + 1)).1 = 1) ∧ (e (exEx e 3 (p + 1)).2.1 = 59) ∧ (p < (exEx e 3 (p + 1)).2.1) ∧ ((exEx e 3 (p + 1)).2.1 < n) ∧ (e p = 38) ∧ (M.1 i = stO e p) ∧ ∀ (v : Int) (I' : ZI) (L' : ZI), (v = ((exEx e 3 (p + 1)).2.1 + 1 : Nat)) → (zWk n e M (wk14 (wkSp s) i) I' L') → (∀ c j : Nat, ¬ c = 139 → ¬ c = 140 → ¬ c = 142 → ¬ c = 143 → L' c j = L c j) → (∀ c j : Nat, ¬ (c = 138 ∧ j = 3) → ¬ (c = 138 ∧ j = 6) → ¬ (c = 138 ∧ j = 8) → ¬ (c = 138 ∧ j = 10) → ¬ (c = 138 ∧ j = 11) → ¬ (c = 138 ∧ j = 12) → ¬ (c = 138 ∧ j = 13) → ¬ (c = 138 ∧ j = 14) → ¬ (c = 138 ∧ j = 15) → ¬ (c = 138 ∧ j = 16) → ¬ (c = 138 ∧ j = 17) → ¬ c = 144 → I' c j = I c j) → (∀ c j : Nat, ¬ c = 139 → ¬ c = 140 → ¬ c = 141 → ¬ c = 142 → ¬ c = 143 → L' c j = L c j) → Q (some (zvi (v))) I' L' R S
theorem sn_E_ws14 : ZSnd 29 4 38 T_E_ws14 := ZSnd.of (zT4_38 28) (by
  rintro args I L R S Q hz ⟨k, n, e, p, s, M, cc, dd, i, rfl, hS, hR, hD, hk, hE, hsc, hW, hgo, hp, hl, hg, hsm, hbp, hbn, hvr, hMi, hQ⟩
  have hk130 : 130 ≤ k := by omega
  have hk134 : k ≤ 134 := by omega
  obtain ⟨hE1, hE2, hE3⟩ := id hE
  have hn4 := hE2.1
  obtain ⟨⟨g11, g11b, g11c⟩, g12, g13, ⟨g3, g3b⟩, ⟨g6, g6b⟩, ⟨g8, g8b⟩, g10, g10b⟩ := zWk_n hW hgo
  refine And.intro rfl ?_
  refine And.intro (zA_138 hS) (zrdR (v := some k) hsc ?_)
  refine And.intro (zDX hD 0 rfl) ⟨_, sn_S_let.up (by decide), ?_⟩
  refine ⟨k, n, e, (p : Int), p, rfl, hS, hR, hD, (by first | exact hk | (clear hQ; grind [xu])), (by first | exact (zEt_fr hE (fun c j h => rfl)) | (clear hQ; grind [xu])), (by omega), ?_⟩
  intro v5o p5hv p5bhv2
  refine And.intro ⟨(by omega), (zRb rfl)⟩ ⟨fun h14 => ?_, (fun h14 => False.elim (by omega))⟩
  refine And.intro ⟨(by omega), (zRb rfl)⟩ ⟨fun h34 => ?_, (fun h34 => False.elim (by omega))⟩
  refine And.intro (zA_138 hS) (Exists.intro _ (And.intro (zinl_ok (zT4_25 27)) (And.intro rfl ?_)))
  refine And.intro (zA_138 hS) (zrd (v := (M.2.2.1 - s.2.1)) g11 ?_)
  refine And.intro (by omega) ⟨fun h4_46 => ?_, (fun h4_46 => False.elim (by omega))⟩
  refine And.intro (zA_138 hS) (zrd (v := (M.2.2.1 - s.2.1)) g11 ?_)
  refine And.intro (zA_138 hS) ⟨_, (zWi (by omega)), ?_⟩
  refine And.intro (Or.inr rfl) ?_
  refine And.intro (zRb rfl) (zbt rfl ?_)
  refine Exists.intro _ (And.intro (zinl_ok (zT8_7 27)) (And.intro rfl ?_))
  refine And.intro ⟨(by omega), (zRb rfl)⟩ ⟨fun h3_56 => ?_, (fun h3_56 => False.elim (by omega))⟩
  refine And.intro (Or.inl rfl) ?_
  refine And.intro (zRb rfl) (zbt rfl ?_)
  refine And.intro (by omega) (And.intro (fun h72 => ?_) (fun h72n0 => (And.intro (fun h72 => False.elim (by omega)) (fun h72n1 => (And.intro (fun h72 => False.elim (by omega)) (fun h72n2 => (And.intro (fun h72 => False.elim (by omega)) (fun h72n3 => (And.intro (fun h72 => False.elim (by omega)) (fun h72n4 => (And.intro (fun h72 => False.elim (by omega)) (fun h72n5 => (And.intro (fun h72 => False.elim (by omega)) (fun h72n6 => (False.elim (by omega))))))))))))))))
  refine And.intro (zA_138 hS) (Exists.intro _ (And.intro (zinl_ok (zT4_0 27)) (And.intro rfl ?_)))
  refine And.intro (zA_138 hS) (zrd (v := (s.1.2.2.1)) g10 ?_)
  refine And.intro ⟨(by omega), (zRb rfl)⟩ ⟨fun h6_178 => ?_, fun h6_178 => ?_⟩
  · refine And.intro (zA_138 hS) (zrdR (v := some k) hsc ?_)
    refine And.intro (zDX hD 0 rfl) ⟨_, sn_S_bsm.up (by decide), ?_⟩
    refine ⟨_, _, _, _, rfl, hS, hR, hD, (by first | exact hk | (clear hQ; grind [xu])), (zEt_fr hE (fun c j h => (zxcj (by omega) rfl))), (by omega), ?_⟩
    intro v36_178o p36_178hv
    refine hQ _ _ _ (p36_178hv.trans (by rw [(smF_X (by omega) hg hsm hbp hbn)]; omega)) ?_ (fun c j h0 h1 h2 h3 => rfl) (fun c j h0 h1 h2 h3 h4 h5 h6 h7 h8 h9 h10 h11 => (zxcj h4 rfl)) (fun c j h0 h1 h2 h3 h4 => rfl)
    · first
      | exact zWk_dms hW (by omega) (by omega) ((show _ = (((M.2.2.1 - s.2.1) - 1) : Int) from rfl).trans (by omega)) ((show _ = ((s.1.2.2.1) : Int) from g10).trans (by omega)) (fun c j h => (zxcj (by omega) rfl)) ⟨p, (zxcj (by omega) ((zxe' (by omega)).trans (by omega))), hp, hMi, hvr, hg⟩
      | exact zWk_dmn hW (by omega) (by omega) ((show _ = (((M.2.2.1 - s.2.1) - 1) : Int) from rfl).trans (by omega)) (fun c j h => (zxcj (by omega) rfl))
  · refine And.intro (zA_138 hS) (zrdR (v := some 144) (zR_138_9 hR) ?_)
    refine And.intro (zA_138 hS) (zrd (v := (s.1.2.2.1)) g10 ?_)
    refine And.intro ⟨(zx0 rfl), (zP_144 hS (by omega) (by omega))⟩ ⟨_, (zWi (by omega)), ?_⟩
    refine And.intro (zA_138 hS) (zrd (v := (s.1.2.2.1)) g10 ?_)
    refine And.intro (zA_138 hS) ⟨_, (zWi (by omega)), ?_⟩
    refine And.intro (zA_138 hS) (zrdR (v := some k) hsc ?_)
    refine And.intro (zDX hD 0 rfl) ⟨_, sn_S_bsm.up (by decide), ?_⟩
    refine ⟨_, _, _, _, rfl, hS, hR, hD, (by first | exact hk | (clear hQ; grind [xu])), (zEt_fr hE (fun c j h => (zxcj (by omega) (zxcj (by omega) (zxcj (by omega) rfl))))), (by omega), ?_⟩
    intro v36_178o p36_178hv
    refine hQ _ _ _ (p36_178hv.trans (by rw [(smF_X (by omega) hg hsm hbp hbn)]; omega)) ?_ (fun c j h0 h1 h2 h3 => rfl) (fun c j h0 h1 h2 h3 h4 h5 h6 h7 h8 h9 h10 h11 => (zxcj h3 (zxu h11 (zxcj h4 rfl)))) (fun c j h0 h1 h2 h3 h4 => rfl)
    · first
      | exact zWk_dms hW (by omega) (by omega) ((show _ = (((M.2.2.1 - s.2.1) - 1) : Int) from rfl).trans (by omega)) ((show _ = (((s.1.2.2.1) + 1) : Int) from rfl).trans (by omega)) (fun c j h => (zxcj (by omega) (zxcj (by omega) (zxcj (by omega) rfl)))) ⟨p, (zxcj (by omega) ((zxe' (by omega)).trans (by omega))), hp, hMi, hvr, hg⟩
      | exact zWk_dmn hW (by omega) (by omega) ((show _ = (((M.2.2.1 - s.2.1) - 1) : Int) from rfl).trans (by omega)) (fun c j h => (zxcj (by omega) (zxcj (by omega) (zxcj (by omega) rfl)))))
def T_E_ws15 : ZT := fun args I L R S Q => ∃ (k : Nat) (n : Nat) (e : Nat → Int) (p : Nat) (s : WkS) (M : WkM) (cc : Int) (dd : Int), args = [zvr 138, zvi p, zvi cc, zvi dd] ∧ (zSh S) ∧ (zRs R) ∧ (zDy zT8 zF8 k R S) ∧ (k = 130 ∨ k = 134) ∧ (zEt k n e I) ∧ (R 138 0 = some k) ∧ (zWk n e M s I L) ∧ (wkGo s) ∧ (p < n) ∧ (s.2.1 < M.2.2.1) ∧ ((exEx e 3 (p + 1)).1 = 1) ∧ (e (exEx e 3 (p + 1)).2.1 = 59) ∧ (p < (exEx e 3 (p + 1)).2.1) ∧ ((exEx e 3 (p + 1)).2.1 < n) ∧ (e p = 124) ∧ ∀ (v : Int) (I' : ZI) (L' : ZI), (v = ((exEx e 3 (p + 1)).2.1 + 1 : Nat)) → (zWk n e M (wk15 (wkSp s) p (exEx e 3 (p + 1)).2.2) I' L') → (∀ c j : Nat, ¬ c = 139 → ¬ c = 140 → ¬ c = 142 → ¬ c = 143 → L' c j = L c j) → (∀ c j : Nat, ¬ (c = 138 ∧ j = 3) → ¬ (c = 138 ∧ j = 6) → ¬ (c = 138 ∧ j = 8) → ¬ (c = 138 ∧ j = 10) → ¬ (c = 138 ∧ j = 11) → ¬ (c = 138 ∧ j = 12) → ¬ (c = 138 ∧ j = 13) → ¬ (c = 138 ∧ j = 14) → ¬ (c = 138 ∧ j = 15) → ¬ (c = 138 ∧ j = 16) → ¬ (c = 138 ∧ j = 17) → ¬ c = 144 → I' c j = I c j) → (∀ c j : Nat, ¬ c = 139 → ¬ c = 140 → ¬ c = 141 → ¬ c = 142 → ¬ c = 143 → L' c j = L c j) → Q (some (zvi (v))) I' L' R S
theorem sn_E_ws15 : ZSnd 29 4 38 T_E_ws15 := ZSnd.of (zT4_38 28) (by
  rintro args I L R S Q hz ⟨k, n, e, p, s, M, cc, dd, rfl, hS, hR, hD, hk, hE, hsc, hW, hgo, hp, hl, hg, hsm, hbp, hbn, hvr, hQ⟩
  have hk130 : 130 ≤ k := by omega
  have hk134 : k ≤ 134 := by omega
  obtain ⟨hE1, hE2, hE3⟩ := id hE
  have hn4 := hE2.1
  obtain ⟨⟨g11, g11b, g11c⟩, g12, g13, ⟨g3, g3b⟩, ⟨g6, g6b⟩, ⟨g8, g8b⟩, g10, g10b⟩ := zWk_n hW hgo
  refine And.intro rfl ?_
  refine And.intro (zA_138 hS) (zrdR (v := some k) hsc ?_)
  refine And.intro (zDX hD 0 rfl) ⟨_, sn_S_let.up (by decide), ?_⟩
  refine ⟨k, n, e, (p : Int), p, rfl, hS, hR, hD, (by first | exact hk | (clear hQ; grind [xu])), (by first | exact (zEt_fr hE (fun c j h => rfl)) | (clear hQ; grind [xu])), (by omega), ?_⟩
  intro v5o p5hv p5bhv2
  refine And.intro ⟨(by omega), (zRb rfl)⟩ ⟨fun h14 => ?_, (fun h14 => False.elim (by omega))⟩
  refine And.intro ⟨(by omega), (zRb rfl)⟩ ⟨fun h34 => ?_, (fun h34 => False.elim (by omega))⟩
  refine And.intro (zA_138 hS) (Exists.intro _ (And.intro (zinl_ok (zT4_25 27)) (And.intro rfl ?_)))
  refine And.intro (zA_138 hS) (zrd (v := (M.2.2.1 - s.2.1)) g11 ?_)
  refine And.intro (by omega) ⟨fun h4_46 => ?_, (fun h4_46 => False.elim (by omega))⟩
  refine And.intro (zA_138 hS) (zrd (v := (M.2.2.1 - s.2.1)) g11 ?_)
  refine And.intro (zA_138 hS) ⟨_, (zWi (by omega)), ?_⟩
  refine And.intro (Or.inr rfl) ?_
  refine And.intro (zRb rfl) (zbt rfl ?_)
  refine Exists.intro _ (And.intro (zinl_ok (zT8_7 27)) (And.intro rfl ?_))
  refine And.intro ⟨(by omega), (zRb rfl)⟩ ⟨(fun h3_56 => False.elim (by omega)), fun h3_56 => ?_⟩
  refine And.intro ⟨(by omega), (zRb rfl)⟩ ⟨fun h9_56 => ?_, (fun h9_56 => False.elim (by omega))⟩
  refine And.intro (Or.inl rfl) ?_
  refine And.intro (zRb rfl) (zbt rfl ?_)
  refine And.intro (by omega) (And.intro (fun h72 => False.elim (by omega)) (fun h72n0 => (And.intro (fun h72 => False.elim (by omega)) (fun h72n1 => (And.intro (fun h72 => False.elim (by omega)) (fun h72n2 => (And.intro (fun h72 => False.elim (by omega)) (fun h72n3 => (And.intro (fun h72 => False.elim (by omega)) (fun h72n4 => (And.intro (fun h72 => ?_) (fun h72n5 => (And.intro (fun h72 => False.elim (by omega)) (fun h72n6 => (False.elim (by omega))))))))))))))))
  refine And.intro (zA_138 hS) ⟨_, sn_E_qry.up (by decide), ?_⟩
  refine ⟨k, n, e, p, s.1.1, rfl, hS, hR, hD, (by first | exact hk | (clear hQ; grind [xu])), (zEt_fr hE (fun c j h => (zxcj (by omega) rfl))), hsc, (zEv_fr hW.1 (fun c j h => (zxcj (by omega) rfl)) (fun c j h => rfl)), (by omega), hg, g12, g13, ?_⟩
  intro v184o I184o L184o p184hv p184bhq p184bbfr p184bbbfrL
  refine hQ _ _ _ (p184hv.trans (by rw [(smF_X (by omega) hg hsm hbp hbn)]; omega)) (zWk_q15s p184bhq hW (by omega) (fun c j h => zxcj (by omega) rfl) (zxe.trans (by omega)) (fun c j h => p184bbfr c j (by omega) (by omega) (by omega) (by omega) (by omega)) (fun j => p184bbbfrL 143 j (by omega))) (fun c j h0 h1 h2 h3 => ((p184bbbfrL c j h0).trans rfl)) (fun c j h0 h1 h2 h3 h4 h5 h6 h7 h8 h9 h10 h11 => ((p184bbfr c j h6 h7 h8 h9 h10).trans (zxcj h4 rfl))) (fun c j h0 h1 h2 h3 h4 => ((p184bbbfrL c j h0).trans rfl)))
def T_E_wsN : ZT := fun args I L R S Q => ∃ (k : Nat) (n : Nat) (e : Nat → Int) (p : Nat) (s : WkS) (M : WkM) (cc : Int) (dd : Int), args = [zvr 138, zvi p, zvi cc, zvi dd] ∧ (zSh S) ∧ (zRs R) ∧ (zDy zT8 zF8 k R S) ∧ (k = 130 ∨ k = 134) ∧ (zEt k n e I) ∧ (R 138 0 = some k) ∧ (zWk n e M s I L) ∧ (wkGo s) ∧ (p < n) ∧ (s.2.1 = M.2.2.1) ∧ (e p ≠ 58 ∧ e p ≠ 42) ∧ ∀ (v : Int) (I' : ZI) (L' : ZI), (v = (p : Nat)) → (zWk n e M (wkSt s) I' L') → (∀ c j : Nat, ¬ c = 139 → ¬ c = 140 → ¬ c = 142 → ¬ c = 143 → L' c j = L c j) → (∀ c j : Nat, ¬ (c = 138 ∧ j = 3) → ¬ (c = 138 ∧ j = 6) → ¬ (c = 138 ∧ j = 8) → ¬ (c = 138 ∧ j = 10) → ¬ (c = 138 ∧ j = 11) → ¬ (c = 138 ∧ j = 12) → ¬ (c = 138 ∧ j = 13) → ¬ (c = 138 ∧ j = 14) → ¬ (c = 138 ∧ j = 15) → ¬ (c = 138 ∧ j = 16) → ¬ (c = 138 ∧ j = 17) → ¬ c = 144 → I' c j = I c j) → (∀ c j : Nat, ¬ c = 139 → ¬ c = 140 → ¬ c = 141 → ¬ c = 142 → ¬ c = 143 → L' c j = L c j) → Q (some (zvi (v))) I' L' R S
theorem sn_E_wsN : ZSnd 29 4 38 T_E_wsN := ZSnd.of (zT4_38 28) (by
  rintro args I L R S Q hz ⟨k, n, e, p, s, M, cc, dd, rfl, hS, hR, hD, hk, hE, hsc, hW, hgo, hp, hl, hvr, hQ⟩
  have hk130 : 130 ≤ k := by omega
  have hk134 : k ≤ 134 := by omega
  obtain ⟨hE1, hE2, hE3⟩ := id hE
  have hn4 := hE2.1
  obtain ⟨⟨g11, g11b, g11c⟩, g12, g13, ⟨g3, g3b⟩, ⟨g6, g6b⟩, ⟨g8, g8b⟩, g10, g10b⟩ := zWk_n hW hgo
  refine And.intro rfl ?_
  refine And.intro (zA_138 hS) (zrdR (v := some k) hsc ?_)
  refine And.intro (zDX hD 0 rfl) ⟨_, sn_S_let.up (by decide), ?_⟩
  refine ⟨k, n, e, (p : Int), p, rfl, hS, hR, hD, (by first | exact hk | (clear hQ; grind [xu])), (by first | exact (zEt_fr hE (fun c j h => rfl)) | (clear hQ; grind [xu])), (by omega), ?_⟩
  intro v5o p5hv p5bhv2
  refine And.intro ⟨(by omega), (zRb rfl)⟩ ⟨fun h14 => ?_, (fun h14 => False.elim (by omega))⟩
  refine And.intro ⟨(by omega), (zRb rfl)⟩ ⟨fun h34 => ?_, (fun h34 => False.elim (by omega))⟩
  refine And.intro (zA_138 hS) (Exists.intro _ (And.intro (zinl_ok (zT4_25 27)) (And.intro rfl ?_)))
  refine And.intro (zA_138 hS) (zrd (v := (M.2.2.1 - s.2.1)) g11 ?_)
  refine And.intro (by omega) ⟨(fun h4_46 => False.elim (by omega)), fun h4_46 => ?_⟩
  refine And.intro ⟨(zA_138 hS), (Or.inr rfl)⟩ ?_
  refine And.intro (Or.inl rfl) ?_
  refine And.intro (zRb rfl) (zbf rfl ?_)
  refine hQ _ _ _ rfl (zWk_st hW (fun c j h => (zxcj (by omega) rfl)) zxe) (fun c j h0 h1 h2 h3 => rfl) (fun c j h0 h1 h2 h3 h4 h5 h6 h7 h8 h9 h10 h11 => (zxcj h5 rfl)) (fun c j h0 h1 h2 h3 h4 => rfl))
