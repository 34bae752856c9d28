/-! ui -/
def T_E_wst (D : Nat) : ZT := fun args I L R S Q => ∃ (k : Nat) (n : Nat) (e : Nat → Int) (cl : Nat → Int) (fn : Nat → Int) (G : WkG) (M : WkM) (r : Nat) (p : Nat) (i : Nat) (tq : Nat) (j : Nat) (cc : Nat) (d : Nat) (s : WkS), args = [zvr 138, zvi p, zvi cc, zvi d] ∧ (zSh S) ∧ (zRs R) ∧ (zDy zT8 zF8 k R S) ∧ (k = 130 ∨ k = 134) ∧ (zEt k n e I) ∧ (R 138 0 = some k) ∧ (zCl k n cl fn I) ∧ (wfA n e cl fn M G) ∧ (cc ≤ 2) ∧ (zWk n e M s I L) ∧ (wkGo s) ∧ (d + 1 + D = 10) ∧ (d + r + 4 ≤ 6 + 2 * cc) ∧ (G r p i tq j) ∧ (p < tq) ∧ (¬ e p = 10) ∧ ∀ (v : Int) (p' : Nat) (i' : Nat) (s' : WkS) (I' : ZI) (L' : ZI), (wkV s' v p') → (r32 v) → (wkT M G r d cc p i tq j s p' i' s') → (zWk n e M s' I' L') → (∀ x : Nat, x < 72 * d → L' 141 x = L 141 x) → (∀ c j : Nat, ¬ (c = 138 ∧ j = 3) → ¬ (c = 138 ∧ j = 6) → ¬ (c = 138 ∧ j = 8) → ¬ (c = 138 ∧ j = 10) → ¬ (c = 138 ∧ j = 11) → ¬ (c = 138 ∧ j = 12) → ¬ (c = 138 ∧ j = 13) → ¬ (c = 138 ∧ j = 14) → ¬ (c = 138 ∧ j = 15) → ¬ (c = 138 ∧ j = 16) → ¬ (c = 138 ∧ j = 17) → ¬ c = 144 → I' c j = I c j) → (∀ c j : Nat, ¬ c = 139 → ¬ c = 140 → ¬ c = 141 → ¬ c = 142 → ¬ c = 143 → L' c j = L c j) → Q (some (zvi (v))) I' L' R S
theorem sn_E_wlkS {hh D : Nat} (hS4 : ZSnd hh 4 38 (T_E_wst D)) : ZSnd (hh + 5) 4 30 (T_E_wlk (D + 1)) := ZSnd.loops (zT4_30 (hh + 4)) (by
  rintro args I L R S Q hz ⟨k, n, e, cl, fn, G, M, r, p, i, tq, j, cc, d, s, tt, rfl, hS, hR, hD, hk, hE, hsc, hC, hA, hcc, hW, hgo, hd, hr, hG, htt, ht4, hQ⟩
  have hk130 : 130 ≤ k := by omega
  have hk134 : k ≤ 134 := by omega
  obtain ⟨hE1, hE2, hE3⟩ := id hE
  have hn4 := hE2.1
  obtain ⟨g11, g12, g13, g3, g6, g8, g10⟩ := zWk_n hW hgo
  have hpt := wf_p hA hG
  refine ⟨[6], fun nM tM lsM stM I1 L1 R1 S1 => match tM with
      | 6 => ∃ (m : Nat) (px : Nat) (ix : Nat) (sx : WkS) (pl : Int) (st : Int) (ek : Int), nM = ((402 - m), 0, 0) ∧ lsM = [some (zvr (138)), some (zvi (p)), some (zvi (tt)), some (zvi (cc)), some (zvi (d)), some (zvi (pl)), some (zvi (m)), none] ∧ stM = [] ∧ R1 = R ∧ S1 = S ∧ (m ≤ 401) ∧ (r32 pl) ∧ (zWk n e M sx I1 L1) ∧ (I1 138 12 = st) ∧ (I1 138 13 = ek) ∧ (0 ≤ st ∧ st ≤ 1) ∧ ((st = 0 ∧ ek = 0 ∧ pl = px ∧ (m ≤ px ∧ px ≤ tq) ∧ wkGo sx ∧ G r px ix tq j ∧ wkZ M d cc i s ix sx) ∨ ((¬ st = 0 ∨ ¬ ek = 0) ∧ wkZ M d cc i s j sx)) ∧ (∀ x : Nat, x < 72 * d → L1 141 x = L 141 x) ∧ (∀ c j : Nat, ¬ (c = 138 ∧ j = 3) → ¬ (c = 138 ∧ j = 6) → ¬ (c = 138 ∧ j = 8) → ¬ (c = 138 ∧ j = 10) → ¬ (c = 138 ∧ j = 11) → ¬ (c = 138 ∧ j = 12) → ¬ (c = 138 ∧ j = 13) → ¬ (c = 138 ∧ j = 14) → ¬ (c = 138 ∧ j = 15) → ¬ (c = 138 ∧ j = 16) → ¬ (c = 138 ∧ j = 17) → ¬ c = 144 → I1 c j = I c j) ∧ (∀ c j : Nat, ¬ c = 139 → ¬ c = 140 → ¬ c = 141 → ¬ c = 142 → ¬ c = 143 → L1 c j = L c j)
      | _ => False, rfl, ?_, ⟨?_, True.intro⟩⟩
  · refine ⟨((402 - (0 : Nat)), 0, 0), [some (zvr (138)), some (zvi (p)), some (zvi (tt)), some (zvi (cc)), some (zvi (d)), some (zvi (p)), some (zvi ((0 : Nat))), none], ⟨rfl, rfl, rfl, rfl, rfl, rfl, rfl, rfl⟩, 0, p, i, s, p, 0, 0, rfl, rfl, rfl, rfl, rfl, (by omega), (show r32 (p : Int) from ⟨by omega, by omega⟩), hW, g12, g13, (by omega), (Or.inl ⟨rfl, rfl, rfl, ⟨Nat.zero_le _, hpt.1⟩, hgo, hG, wkZ_r hgo⟩), (fun _ _ => rfl), (fun c j h0 h1 h2 h3 h4 h5 h6 h7 h8 h9 h10 h11 => rfl), (fun c j h0 h1 h2 h3 h4 => rfl)⟩
  · rintro nM lsM stM I1 L1 R1 S1 hz1 ⟨m, px, ix, sx, pl, st, ek, rfl, rfl, rfl, rfl, rfl, hm, hpl, hW1, i12, i13, hst, hd2, hK1, fr, frL⟩
    have hE_1 : zEt k n e I1 := zEt_fr hE (fun c j h => fr c j (by omega) (by omega) (by omega) (by omega) (by omega) (by omega) (by omega) (by omega) (by omega) (by omega) (by omega) (by omega))
    have hC_1 : zCl k n cl fn I1 := zCl_fr hC (fun c j h => fr c j (by omega) (by omega) (by omega) (by omega) (by omega) (by omega) (by omega) (by omega) (by omega) (by omega) (by omega) (by omega))
    obtain ⟨hek1, hek2⟩ : r32 ek := by rw [← i13]; exact hz1.1 138 13
    rcases hd2 with hs | hs
    · refine And.intro ⟨(by omega), (zRb rfl)⟩ ⟨(fun h11 => False.elim (by omega)), fun h11 => ?_⟩
      rcases htt with w17 | w17
      · refine And.intro ⟨(by omega), (by omega)⟩ ⟨fun h17 => ?_, fun h17 => ?_⟩
        · refine hQ _ _ _ hW1 (wk_endZ hA hs.2.2.2.2.2.1 (by omega) hs.2.2.2.2.2.2) hK1 (fun c j h0 h1 h2 h3 h4 h5 h6 h7 h8 h9 h10 h11 => ((fr c j h0 h1 h2 h3 h4 h5 h6 h7 h8 h9 h10 h11).trans rfl)) (fun c j h0 h1 h2 h3 h4 => ((frL c j h0 h1 h2 h3 h4).trans rfl))
        · refine And.intro (zA_138 hS) (Exists.intro _ (And.intro (zinl_ok (zT4_15 (hh + 3))) (And.intro rfl ?_)))
          refine And.intro (zA_138 hS) (zrd (v := st) i12 ?_)
          refine And.intro (by omega) ⟨(fun h4_21 => False.elim (by omega)), fun h4_21 => ?_⟩
          refine And.intro (zA_138 hS) (zrd (v := ek) i13 ?_)
          refine And.intro (by omega) ⟨(fun h11_21 => False.elim (by omega)), fun h11_21 => ?_⟩
          refine And.intro (Or.inr rfl) ?_
          refine And.intro (zRb rfl) (zbf rfl ?_)
          refine And.intro ⟨(by omega), (zRb rfl)⟩ ⟨(fun h31 => False.elim (by omega)), fun h31 => ?_⟩
          refine And.intro (zA_138 hS) (zrdR (v := some k) hsc ?_)
          refine And.intro (zDX hD 0 rfl) ⟨_, sn_S_let.up (Nat.le_trans (show 1 ≤ 4 by decide) (Nat.le_add_left 4 hh)), ?_⟩
          refine ⟨k, n, e, (pl : Int), px, rfl, hS, hR, hD, (by first | exact hk | (clear hQ; grind [xu])), hE_1, (by omega), ?_⟩
          intro v40o p40hv p40bhv2
          refine And.intro ⟨(by omega), (zRb rfl)⟩ ⟨fun h48 => ?_, fun h48 => ?_⟩
          · have t48 : px + 1 ≤ tq := (by have q := eTx_lt hE2 (p := px) (by omega); omega)
            refine And.intro ⟨(by omega), (zRb rfl)⟩ ⟨fun h56 => ?_, fun h56 => ?_⟩
            · refine And.intro (zA_138 hS) ⟨_, hS4.up (Nat.le_add_right hh 4), ?_⟩
              refine ⟨k, n, e, cl, fn, G, M, r, px, ix, tq, j, cc, d, sx, (show [zvr 138, zvi pl, zvi (cc : Int), zvi (d : Int)] = _ from by rw [hs.2.2.1]), hS, hR, hD, (by first | exact hk | (clear hQ; grind [xu])), hE_1, hsc, hC_1, hA, (by omega), hW1, hs.2.2.2.2.1, (by omega), hr, hs.2.2.2.2.2.1, (by omega), (by omega), ?_⟩
              intro v72o p72o i72o s72o I72o L72o p72bhv p72bbhrv p72bbbhT p72bbbbhW p72bbbbbhK p72bbbbbbfr p72bbbbbbbfrL
              refine ⟨((402 - (m + 1)), 0, 0), zlt6 (by omega), [some (zvr (138)), some (zvi (p)), some (zvi (tt)), some (zvi (cc)), some (zvi (d)), some (zvi (v72o)), some (zvi ((m + 1))), none], ⟨rfl, rfl, rfl, rfl, rfl, rfl, rfl, rfl⟩, (m + 1), p72o, i72o, s72o, v72o, (I72o 138 12), (I72o 138 13), rfl, rfl, rfl, rfl, rfl, (by omega), p72bbhrv, p72bbbbhW, rfl, rfl, (by have q := p72bbbbhW.2.2.2.2.1; omega), (by by_cases g : wkGo s72o; (have q := p72bbbhT.1 g; have q2 := wf_p hA q.1; exact Or.inl ⟨p72bbbbhW.2.2.2.2.1.1.trans (by rw [g.1]; rfl), p72bbbbhW.2.2.2.2.2.1.trans (by rw [g.2]), p72bhv g, ⟨by omega, q2.1⟩, g, q.1, wkZ_t hs.2.2.2.2.2.2 hs.2.2.2.2.1 p72bbbhT.2⟩); exact Or.inr ⟨wkZ_no p72bbbhT.2 p72bbbbhW g, wkZ_a (wkZ_t hs.2.2.2.2.2.2 hs.2.2.2.2.1 p72bbbhT.2) g⟩), (fun x hx => (p72bbbbbhK x hx).trans (hK1 x hx)), (fun c j h0 h1 h2 h3 h4 h5 h6 h7 h8 h9 h10 h11 => ((p72bbbbbbfr c j h0 h1 h2 h3 h4 h5 h6 h7 h8 h9 h10 h11).trans ((fr c j h0 h1 h2 h3 h4 h5 h6 h7 h8 h9 h10 h11).trans rfl))), (fun c j h0 h1 h2 h3 h4 => ((p72bbbbbbbfrL c j h0 h1 h2 h3 h4).trans ((frL c j h0 h1 h2 h3 h4).trans rfl)))⟩
            · refine ⟨((402 - (m + 1)), 0, 0), zlt6 (by omega), [some (zvr (138)), some (zvi (p)), some (zvi (tt)), some (zvi (cc)), some (zvi (d)), some (zvi ((pl + 1))), some (zvi ((m + 1))), none], ⟨rfl, rfl, rfl, rfl, rfl, rfl, rfl, rfl⟩, (m + 1), (px + 1), ix, sx, (pl + 1), st, ek, rfl, rfl, rfl, rfl, rfl, (by omega), (show r32 _ from ⟨by omega, by omega⟩), hW1, i12, i13, hst, (Or.inl ⟨hs.1, hs.2.1, (by omega), ⟨by omega, by omega⟩, hs.2.2.2.2.1, wf_n hA hs.2.2.2.2.2.1 (by omega) (by omega), hs.2.2.2.2.2.2⟩), hK1, (fun c j h0 h1 h2 h3 h4 h5 h6 h7 h8 h9 h10 h11 => ((fr c j h0 h1 h2 h3 h4 h5 h6 h7 h8 h9 h10 h11).trans rfl)), (fun c j h0 h1 h2 h3 h4 => ((frL c j h0 h1 h2 h3 h4).trans rfl))⟩
          · have t48 : n ≤ px := (wf_let hA (by omega))
            refine hQ _ _ _ hW1 (wk_endZ hA hs.2.2.2.2.2.1 (by omega) hs.2.2.2.2.2.2) hK1 (fun c j h0 h1 h2 h3 h4 h5 h6 h7 h8 h9 h10 h11 => ((fr c j h0 h1 h2 h3 h4 h5 h6 h7 h8 h9 h10 h11).trans rfl)) (fun c j h0 h1 h2 h3 h4 => ((frL c j h0 h1 h2 h3 h4).trans rfl))
      · refine And.intro ⟨(by omega), (by omega)⟩ ⟨fun h17 => ?_, fun h17 => ?_⟩
        · refine hQ _ _ _ hW1 (wk_endZ hA hs.2.2.2.2.2.1 (by omega) hs.2.2.2.2.2.2) hK1 (fun c j h0 h1 h2 h3 h4 h5 h6 h7 h8 h9 h10 h11 => ((fr c j h0 h1 h2 h3 h4 h5 h6 h7 h8 h9 h10 h11).trans rfl)) (fun c j h0 h1 h2 h3 h4 => ((frL c j h0 h1 h2 h3 h4).trans rfl))
        · refine And.intro (zA_138 hS) (Exists.intro _ (And.intro (zinl_ok (zT4_15 (hh + 3))) (And.intro rfl ?_)))
          refine And.intro (zA_138 hS) (zrd (v := st) i12 ?_)
          refine And.intro (by omega) ⟨(fun h4_21 => False.elim (by omega)), fun h4_21 => ?_⟩
          refine And.intro (zA_138 hS) (zrd (v := ek) i13 ?_)
          refine And.intro (by omega) ⟨(fun h11_21 => False.elim (by omega)), fun h11_21 => ?_⟩
          refine And.intro (Or.inr rfl) ?_
          refine And.intro (zRb rfl) (zbf rfl ?_)
          refine And.intro ⟨(by omega), (zRb rfl)⟩ ⟨(fun h31 => False.elim (by omega)), fun h31 => ?_⟩
          refine And.intro (zA_138 hS) (zrdR (v := some k) hsc ?_)
          refine And.intro (zDX hD 0 rfl) ⟨_, sn_S_let.up (Nat.le_trans (show 1 ≤ 4 by decide) (Nat.le_add_left 4 hh)), ?_⟩
          refine ⟨k, n, e, (pl : Int), px, rfl, hS, hR, hD, (by first | exact hk | (clear hQ; grind [xu])), hE_1, (by omega), ?_⟩
          intro v40o p40hv p40bhv2
          refine And.intro ⟨(by omega), (zRb rfl)⟩ ⟨fun h48 => ?_, fun h48 => ?_⟩
          · have t48 : px + 1 ≤ tq := (by have q := eTx_lt hE2 (p := px) (by omega); omega)
            refine And.intro ⟨(by omega), (zRb rfl)⟩ ⟨fun h56 => ?_, fun h56 => ?_⟩
            · refine And.intro (zA_138 hS) ⟨_, hS4.up (Nat.le_add_right hh 4), ?_⟩
              refine ⟨k, n, e, cl, fn, G, M, r, px, ix, tq, j, cc, d, sx, (show [zvr 138, zvi pl, zvi (cc : Int), zvi (d : Int)] = _ from by rw [hs.2.2.1]), hS, hR, hD, (by first | exact hk | (clear hQ; grind [xu])), hE_1, hsc, hC_1, hA, (by omega), hW1, hs.2.2.2.2.1, (by omega), hr, hs.2.2.2.2.2.1, (by omega), (by omega), ?_⟩
              intro v72o p72o i72o s72o I72o L72o p72bhv p72bbhrv p72bbbhT p72bbbbhW p72bbbbbhK p72bbbbbbfr p72bbbbbbbfrL
              refine ⟨((402 - (m + 1)), 0, 0), zlt6 (by omega), [some (zvr (138)), some (zvi (p)), some (zvi (tt)), some (zvi (cc)), some (zvi (d)), some (zvi (v72o)), some (zvi ((m + 1))), none], ⟨rfl, rfl, rfl, rfl, rfl, rfl, rfl, rfl⟩, (m + 1), p72o, i72o, s72o, v72o, (I72o 138 12), (I72o 138 13), rfl, rfl, rfl, rfl, rfl, (by omega), p72bbhrv, p72bbbbhW, rfl, rfl, (by have q := p72bbbbhW.2.2.2.2.1; omega), (by by_cases g : wkGo s72o; (have q := p72bbbhT.1 g; have q2 := wf_p hA q.1; exact Or.inl ⟨p72bbbbhW.2.2.2.2.1.1.trans (by rw [g.1]; rfl), p72bbbbhW.2.2.2.2.2.1.trans (by rw [g.2]), p72bhv g, ⟨by omega, q2.1⟩, g, q.1, wkZ_t hs.2.2.2.2.2.2 hs.2.2.2.2.1 p72bbbhT.2⟩); exact Or.inr ⟨wkZ_no p72bbbhT.2 p72bbbbhW g, wkZ_a (wkZ_t hs.2.2.2.2.2.2 hs.2.2.2.2.1 p72bbbhT.2) g⟩), (fun x hx => (p72bbbbbhK x hx).trans (hK1 x hx)), (fun c j h0 h1 h2 h3 h4 h5 h6 h7 h8 h9 h10 h11 => ((p72bbbbbbfr c j h0 h1 h2 h3 h4 h5 h6 h7 h8 h9 h10 h11).trans ((fr c j h0 h1 h2 h3 h4 h5 h6 h7 h8 h9 h10 h11).trans rfl))), (fun c j h0 h1 h2 h3 h4 => ((p72bbbbbbbfrL c j h0 h1 h2 h3 h4).trans ((frL c j h0 h1 h2 h3 h4).trans rfl)))⟩
            · refine ⟨((402 - (m + 1)), 0, 0), zlt6 (by omega), [some (zvr (138)), some (zvi (p)), some (zvi (tt)), some (zvi (cc)), some (zvi (d)), some (zvi ((pl + 1))), some (zvi ((m + 1))), none], ⟨rfl, rfl, rfl, rfl, rfl, rfl, rfl, rfl⟩, (m + 1), (px + 1), ix, sx, (pl + 1), st, ek, rfl, rfl, rfl, rfl, rfl, (by omega), (show r32 _ from ⟨by omega, by omega⟩), hW1, i12, i13, hst, (Or.inl ⟨hs.1, hs.2.1, (by omega), ⟨by omega, by omega⟩, hs.2.2.2.2.1, wf_n hA hs.2.2.2.2.2.1 (by omega) (by omega), hs.2.2.2.2.2.2⟩), hK1, (fun c j h0 h1 h2 h3 h4 h5 h6 h7 h8 h9 h10 h11 => ((fr c j h0 h1 h2 h3 h4 h5 h6 h7 h8 h9 h10 h11).trans rfl)), (fun c j h0 h1 h2 h3 h4 => ((frL c j h0 h1 h2 h3 h4).trans rfl))⟩
          · have t48 : n ≤ px := (wf_let hA (by omega))
            refine hQ _ _ _ hW1 (wk_endZ hA hs.2.2.2.2.2.1 (by omega) hs.2.2.2.2.2.2) hK1 (fun c j h0 h1 h2 h3 h4 h5 h6 h7 h8 h9 h10 h11 => ((fr c j h0 h1 h2 h3 h4 h5 h6 h7 h8 h9 h10 h11).trans rfl)) (fun c j h0 h1 h2 h3 h4 => ((frL c j h0 h1 h2 h3 h4).trans rfl))
    · refine And.intro ⟨(by omega), (zRb rfl)⟩ ⟨fun h11 => ?_, fun h11 => ?_⟩
      · refine hQ _ _ _ hW1 hs.2 hK1 (fun c j h0 h1 h2 h3 h4 h5 h6 h7 h8 h9 h10 h11 => ((fr c j h0 h1 h2 h3 h4 h5 h6 h7 h8 h9 h10 h11).trans rfl)) (fun c j h0 h1 h2 h3 h4 => ((frL c j h0 h1 h2 h3 h4).trans rfl))
      · refine And.intro ⟨(by omega), (by omega)⟩ ⟨fun h17 => ?_, fun h17 => ?_⟩
        · refine hQ _ _ _ hW1 hs.2 hK1 (fun c j h0 h1 h2 h3 h4 h5 h6 h7 h8 h9 h10 h11 => ((fr c j h0 h1 h2 h3 h4 h5 h6 h7 h8 h9 h10 h11).trans rfl)) (fun c j h0 h1 h2 h3 h4 => ((frL c j h0 h1 h2 h3 h4).trans rfl))
        · refine And.intro (zA_138 hS) (Exists.intro _ (And.intro (zinl_ok (zT4_15 (hh + 3))) (And.intro rfl ?_)))
          refine And.intro (zA_138 hS) (zrd (v := st) i12 ?_)
          refine And.intro (by omega) ⟨fun h4_21 => ?_, fun h4_21 => ?_⟩
          · refine And.intro (Or.inl rfl) ?_
            refine And.intro (zRb rfl) (zbt rfl ?_)
            refine hQ _ _ _ hW1 hs.2 hK1 (fun c j h0 h1 h2 h3 h4 h5 h6 h7 h8 h9 h10 h11 => ((fr c j h0 h1 h2 h3 h4 h5 h6 h7 h8 h9 h10 h11).trans rfl)) (fun c j h0 h1 h2 h3 h4 => ((frL c j h0 h1 h2 h3 h4).trans rfl))
          · refine And.intro (zA_138 hS) (zrd (v := ek) i13 ?_)
            refine And.intro (by omega) ⟨fun h11_21 => ?_, fun h11_21 => ?_⟩
            · refine And.intro (Or.inl rfl) ?_
              refine And.intro (zRb rfl) (zbt rfl ?_)
              refine hQ _ _ _ hW1 hs.2 hK1 (fun c j h0 h1 h2 h3 h4 h5 h6 h7 h8 h9 h10 h11 => ((fr c j h0 h1 h2 h3 h4 h5 h6 h7 h8 h9 h10 h11).trans rfl)) (fun c j h0 h1 h2 h3 h4 => ((frL c j h0 h1 h2 h3 h4).trans rfl))
            · exact False.elim (by omega))
