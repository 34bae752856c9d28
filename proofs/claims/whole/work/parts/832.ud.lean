/-! ud -/
def T_S_cl2 : ZT := fun args I L R S Q => ∃ (k : Nat) (n : Nat) (e : Nat → Int) (q : Nat) (t : Nat) (cl : Nat → Int) (fn : Nat → Int), args = [zvr k, zvi q] ∧ (zSh S) ∧ (zRs R) ∧ (zDy zT8 zF8 k R S) ∧ (k = 130 ∨ k = 134) ∧ (zEt k n e I) ∧ (zCl k n cl fn I) ∧ (cl q = (t : Int)) ∧ (q < n) ∧ Q (some (zvi (t))) I L R S
theorem sn_S_cl2 : ZSnd 1 8 1 T_S_cl2 := ZSnd.of (zT8_1 0) (by
  rintro args I L R S Q hz ⟨k, n, e, q, t, cl, fn, rfl, hS, hR, hD, hk, hE, hC, hct, hq, hQ⟩
  have hk130 : 130 ≤ k := by omega
  have hk134 : k ≤ 134 := by omega
  obtain ⟨hE1, hE2, hE3⟩ := id hE
  have hn4 := hE2.1
  refine And.intro rfl ?_
  refine And.intro (by omega) ⟨(fun h1 => False.elim (by omega)), fun h1 => ?_⟩
  refine And.intro (zDX hD 0 rfl) (zrd (v := n) hE1 ?_)
  refine And.intro ⟨(by omega), (by omega)⟩ ⟨(fun h9 => False.elim (by omega)), fun h9 => ?_⟩
  refine And.intro (zDX hD 0 rfl) (zrdR (v := some (k + 2)) (zDR hD 1 rfl) ?_)
  refine And.intro (zDP hD 2 rfl rfl (by omega) (by omega)) (fun v17 e17 r17 => ?_)
  have f17 : v17 = t := (e17.trans ((hC.1 q (by omega)).trans hct))
  refine zrq (by omega) (hQ ))
def T_E_wlk (D : Nat) : ZT := fun args I L R S Q => ∃ (k : Nat) (n : Nat) (e : Nat → Int) (cl : Nat → Int) (fn : Nat → Int) (G : WkG) (M : WkM) (r : Nat) (p : Nat) (i : Nat) (tq : Nat) (j : Nat) (cc : Nat) (d : Nat) (s : WkS) (tt : Nat), args = [zvr 138, zvi p, zvi tt, zvi cc, zvi d] ∧ (zSh S) ∧ (zRs R) ∧ (zDy zT8 zF8 k R S) ∧ (k = 130 ∨ k = 134) ∧ (zEt k n e I) ∧ (R 138 0 = some k) ∧ (zCl k n cl fn I) ∧ (wfA n e cl fn M G) ∧ (cc ≤ 2) ∧ (zWk n e M s I L) ∧ (wkGo s) ∧ (d + D = 10) ∧ (d + r + 4 ≤ 6 + 2 * cc) ∧ (G r p i tq j) ∧ (tt = tq ∨ (n ≤ tt ∧ tq = n)) ∧ (tt ≤ 400) ∧ ∀ (s' : WkS) (I' : ZI) (L' : ZI), (zWk n e M s' I' L') → (wkZ M d cc i s j s') → (∀ x : Nat, x < 72 * d → L' 141 x = L 141 x) → (∀ c j : Nat, ¬ (c = 138 ∧ j = 3) → ¬ (c = 138 ∧ j = 6) → ¬ (c = 138 ∧ j = 8) → ¬ (c = 138 ∧ j = 10) → ¬ (c = 138 ∧ j = 11) → ¬ (c = 138 ∧ j = 12) → ¬ (c = 138 ∧ j = 13) → ¬ (c = 138 ∧ j = 14) → ¬ (c = 138 ∧ j = 15) → ¬ (c = 138 ∧ j = 16) → ¬ (c = 138 ∧ j = 17) → ¬ c = 144 → I' c j = I c j) → (∀ c j : Nat, ¬ c = 139 → ¬ c = 140 → ¬ c = 141 → ¬ c = 142 → ¬ c = 143 → L' c j = L c j) → Q none I' L' R S
def T_E_wbl (D : Nat) : ZT := fun args I L R S Q => ∃ (k : Nat) (n : Nat) (e : Nat → Int) (cl : Nat → Int) (fn : Nat → Int) (G : WkG) (M : WkM) (r : Nat) (q : Nat) (i : Nat) (t1 : Nat) (j : Nat) (cc : Nat) (d : Nat) (s : WkS), args = [zvr 138, zvi q, zvi cc, zvi d] ∧ (zSh S) ∧ (zRs R) ∧ (zDy zT8 zF8 k R S) ∧ (k = 130 ∨ k = 134) ∧ (zEt k n e I) ∧ (R 138 0 = some k) ∧ (zCl k n cl fn I) ∧ (wfA n e cl fn M G) ∧ (cc ≤ 2) ∧ (zWk n e M s I L) ∧ (wkGo s) ∧ (d + 1 + D = 10) ∧ (d + 1 + r + 4 ≤ 6 + 2 * cc) ∧ (cl q = (t1 : Int)) ∧ (q < t1 ∧ t1 < n) ∧ (G r (q + 1) i t1 j) ∧ ∀ (s' : WkS) (I' : ZI) (L' : ZI), (zWk n e M s' I' L') → (wkZ M (d + 1) cc i s j s') → (∀ x : Nat, x < 72 * (d + 1) → L' 141 x = L 141 x) → (∀ c j : Nat, ¬ (c = 138 ∧ j = 3) → ¬ (c = 138 ∧ j = 6) → ¬ (c = 138 ∧ j = 8) → ¬ (c = 138 ∧ j = 10) → ¬ (c = 138 ∧ j = 11) → ¬ (c = 138 ∧ j = 12) → ¬ (c = 138 ∧ j = 13) → ¬ (c = 138 ∧ j = 14) → ¬ (c = 138 ∧ j = 15) → ¬ (c = 138 ∧ j = 16) → ¬ (c = 138 ∧ j = 17) → ¬ c = 144 → I' c j = I c j) → (∀ c j : Nat, ¬ c = 139 → ¬ c = 140 → ¬ c = 141 → ¬ c = 142 → ¬ c = 143 → L' c j = L c j) → Q (some (zvi (t1 + 1))) I' L' R S
theorem sn_E_wbl {hh D : Nat} (h29 : 29 ≤ hh) (hB : ZSnd hh 4 30 (T_E_wlk D)) : ZSnd (hh + 3) 4 32 (T_E_wbl D) := ZSnd.of (zT4_32 (hh + 2)) (by
  rintro args I L R S Q hz ⟨k, n, e, cl, fn, G, M, r, q, i, t1, j, cc, d, s, rfl, hS, hR, hD, hk, hE, hsc, hC, hA, hcc, hW, hgo, hd, hr, hcl, hq, hG, hQ⟩
  have hk130 : 130 ≤ k := by omega
  have hk134 : k ≤ 134 := by omega
  obtain ⟨hE1, hE2, hE3⟩ := id hE
  have hn4 := hE2.1
  refine And.intro rfl ?_
  refine And.intro (zA_138 hS) (zrdR (v := some k) hsc ?_)
  refine And.intro (zDX hD 0 rfl) ⟨_, sn_S_cl2.up (Nat.le_trans (show 1 ≤ 2 by decide) (Nat.le_add_left 2 hh)), ?_⟩
  refine ⟨k, n, e, q, t1, cl, fn, rfl, hS, hR, hD, (by first | exact hk | (clear hQ; grind [xu])), (by first | exact (zEt_fr hE (fun c j h => rfl)) | (clear hQ; grind [xu])), (by first | exact hC | (clear hQ; grind [xu])), hcl, (by omega), ?_⟩
  refine And.intro (zA_138 hS) ⟨_, hB.up (Nat.le_add_right hh 2), ?_⟩
  refine ⟨k, n, e, cl, fn, G, M, r, (q + 1), i, t1, j, cc, (d + 1), s, t1, rfl, hS, hR, hD, (by first | exact hk | (clear hQ; grind [xu])), (by first | exact (zEt_fr hE (fun c j h => rfl)) | (clear hQ; grind [xu])), hsc, (by first | exact hC | (clear hQ; grind [xu])), hA, (by omega), hW, hgo, hd, hr, hG, (Or.inl rfl), (by omega), ?_⟩
  intro s16o I16o L16o p16hW p16bhZ p16bbhK p16bbbfr p16bbbbfrL
  refine And.intro (zA_138 hS) (zrdR (v := some k) hsc ?_)
  refine And.intro (zDX hD 0 rfl) ⟨_, sn_S_cl2.up (Nat.le_trans (show 1 ≤ 2 by decide) (Nat.le_add_left 2 hh)), ?_⟩
  refine ⟨k, n, e, q, t1, cl, fn, rfl, hS, hR, hD, (by first | exact hk | (clear hQ; grind [xu])), (zEt_fr hE (fun c j h => ((p16bbbfr c j (by omega) (by omega) (by omega) (by omega) (by omega) (by omega) (by omega) (by omega) (by omega) (by omega) (by omega) (by omega)).trans rfl))), (zCl_fr hC (fun c j h => ((p16bbbfr c j (by omega) (by omega) (by omega) (by omega) (by omega) (by omega) (by omega) (by omega) (by omega) (by omega) (by omega) (by omega)).trans rfl))), hcl, (by omega), ?_⟩
  refine zrq (by omega) (hQ _ _ _ p16hW p16bhZ p16bbhK (fun c j h0 h1 h2 h3 h4 h5 h6 h7 h8 h9 h10 h11 => ((p16bbbfr c j h0 h1 h2 h3 h4 h5 h6 h7 h8 h9 h10 h11).trans rfl)) (fun c j h0 h1 h2 h3 h4 => ((p16bbbbfrL c j h0 h1 h2 h3 h4).trans rfl))))
