/-! ug -/
def T_E_wlp (D : Nat) : ZT := fun args I L R S Q => ∃ (k : Nat) (n : Nat) (e : Nat → Int) (cl : Nat → Int) (fn : Nat → Int) (G : WkG) (M : WkM) (r : Nat) (p : Nat) (i : Nat) (t1 : Nat) (j1 : Nat) (cc : Nat) (d : Nat) (s : WkS), args = [zvr 138, zvi p, zvi cc, zvi d] ∧ (zSh S) ∧ (zRs R) ∧ (zDy zT8 zF8 k R S) ∧ (k = 130 ∨ k = 134) ∧ (zEt k n e I) ∧ (R 138 0 = some k) ∧ (zCl k n cl fn I) ∧ (wfA n e cl fn M G) ∧ (cc ≤ 2) ∧ (zWk n e M s I L) ∧ (wkGo s) ∧ (d + 1 + D = 10) ∧ (d + 1 + r + 4 ≤ 6 + 2 * cc) ∧ (p < n) ∧ ((exEx e 3 (p + 1)).1 = 1) ∧ (cl (exEx e 3 (p + 1)).2.1 = (t1 : Int)) ∧ ((exEx e 3 (p + 1)).2.1 < t1 ∧ t1 < n) ∧ (i ≤ M.2.2.2) ∧ (G r ((exEx e 3 (p + 1)).2.1 + 1) (i + 1) t1 j1) ∧ (M.1 i = (6, (p : Int), 0, [], (exEx e 3 (p + 1)).2.2, ((j1 + 1 : Nat) : Int))) ∧ ((M.1 j1).1 = 17 ∧ (M.1 j1).2.2.2.2.2 = (i : Int)) ∧ (j1 ≤ M.2.2.2) ∧ ∀ (v : Int) (s' : WkS) (I' : ZI) (L' : ZI), (wkV s' v (t1 + 1)) → (r32 v) → (zWk n e M s' I' L') → (wkZ M d cc i s (j1 + 1) s') → (∀ x : Nat, x < 72 * d → L' 141 x = L 141 x) → (∀ c j : Nat, ¬ (c = 138 ∧ j = 3) → ¬ (c = 138 ∧ j = 6) → ¬ (c = 138 ∧ j = 8) → ¬ (c = 138 ∧ j = 10) → ¬ (c = 138 ∧ j = 11) → ¬ (c = 138 ∧ j = 12) → ¬ (c = 138 ∧ j = 13) → ¬ (c = 138 ∧ j = 14) → ¬ (c = 138 ∧ j = 15) → ¬ (c = 138 ∧ j = 16) → ¬ (c = 138 ∧ j = 17) → ¬ c = 144 → I' c j = I c j) → (∀ c j : Nat, ¬ c = 139 → ¬ c = 140 → ¬ c = 141 → ¬ c = 142 → ¬ c = 143 → L' c j = L c j) → Q (some (zvi (v))) I' L' R S
theorem sn_E_wlp {hh D : Nat} (h29 : 29 ≤ hh) (hB : ZSnd hh 4 30 (T_E_wlk D)) : ZSnd (hh + 6) 4 36 (T_E_wlp D) := ZSnd.loops (zT4_36 (hh + 5)) (by
  rintro args I L R S Q hz ⟨k, n, e, cl, fn, G, M, r, p, i, t1, j1, cc, d, s, rfl, hS, hR, hD, hk, hE, hsc, hC, hA, hcc, hW, hgo, hd, hr, hp, hg, hcl, hq, hi, hG, hMi, hj1, hjt, hQ⟩
  have hk130 : 130 ≤ k := by omega
  have hk134 : k ≤ 134 := by omega
  obtain ⟨hE1, hE2, hE3⟩ := id hE
  have hn4 := hE2.1
  obtain ⟨g11, g12, g13, g3, g6, g8, g10⟩ := zWk_n hW hgo
  refine ⟨[9], fun nM tM lsM stM I1 L1 R1 S1 => match tM with
      | 9 => ∃ (m : Nat) (sx : WkS) (ag : Int) (nx : Int) (st : Int) (ek : Int), nM = ((302 - m), 0, 0) ∧ lsM = [some (zvr (138)), some (zvi (p)), some (zvi (cc)), some (zvi (d)), some (zvi (ag)), some (zvi (nx)), some (zvi (m)), none, none] ∧ stM = [] ∧ R1 = R ∧ S1 = S ∧ (m ≤ 301) ∧ (0 ≤ ag ∧ ag ≤ 1) ∧ (r32 nx) ∧ (zWk n e M sx I1 L1) ∧ (I1 138 12 = st) ∧ (I1 138 13 = ek) ∧ (0 ≤ st ∧ st ≤ 1) ∧ ((ag = 1 ∧ (st = 0 ∧ ek = 0) ∧ m ≤ sx.2.1 ∧ wkGo sx ∧ wkZ M d cc i s i sx ∧ True) ∨ ((ag = 0 ∨ ¬ st = 0 ∨ ¬ ek = 0) ∧ wkZ M d cc i s (j1 + 1) sx ∧ wkV sx nx (t1 + 1))) ∧ (∀ x : Nat, x < 72 * d → L1 141 x = L 141 x) ∧ (∀ c j : Nat, ¬ (c = 138 ∧ j = 3) → ¬ (c = 138 ∧ j = 6) → ¬ (c = 138 ∧ j = 8) → ¬ (c = 138 ∧ j = 10) → ¬ (c = 138 ∧ j = 11) → ¬ (c = 138 ∧ j = 12) → ¬ (c = 138 ∧ j = 13) → ¬ (c = 138 ∧ j = 14) → ¬ (c = 138 ∧ j = 15) → ¬ (c = 138 ∧ j = 16) → ¬ (c = 138 ∧ j = 17) → ¬ c = 144 → I1 c j = I c j) ∧ (∀ c j : Nat, ¬ c = 139 → ¬ c = 140 → ¬ c = 141 → ¬ c = 142 → ¬ c = 143 → L1 c j = L c j)
      | _ => False, rfl, ?_, ⟨?_, True.intro⟩⟩
  · refine ⟨((302 - (0 : Nat)), 0, 0), [some (zvr (138)), some (zvi (p)), some (zvi (cc)), some (zvi (d)), some (zvi ((1 : Int))), some (zvi ((p : Int))), some (zvi ((0 : Nat))), none, none], ⟨rfl, rfl, rfl, rfl, rfl, (congrArg (fun z => some (zvi z)) (by omega)), rfl, rfl⟩, 0, s, 1, (p : Int), 0, 0, rfl, rfl, rfl, rfl, rfl, (by omega), (by omega), (show r32 (p : Int) from ⟨by omega, by omega⟩), hW, g12, g13, (by omega), (Or.inl ⟨rfl, ⟨rfl, rfl⟩, Nat.zero_le _, hgo, wkZ_r hgo, True.intro⟩), (fun _ _ => rfl), (fun c j h0 h1 h2 h3 h4 h5 h6 h7 h8 h9 h10 h11 => rfl), (fun c j h0 h1 h2 h3 h4 => rfl)⟩
  · rintro nM lsM stM I1 L1 R1 S1 hz1 ⟨m, sx, ag, nx, st, ek, rfl, rfl, rfl, rfl, rfl, hm, hag, hnx, hW1, i12, i13, hst, hd2, hK1, fr, frL⟩
    have x11 := hW1.2.2.2.1.1
    have x11b := hW1.2.2.2.1.2.1
    have x11c := hW1.2.2.2.1.2.2
    have hE_1 : zEt k n e I1 := zEt_fr hE (fun c j h => fr c j (by omega) (by omega) (by omega) (by omega) (by omega) (by omega) (by omega) (by omega) (by omega) (by omega) (by omega) (by omega))
    have hC_1 : zCl k n cl fn I1 := zCl_fr hC (fun c j h => fr c j (by omega) (by omega) (by omega) (by omega) (by omega) (by omega) (by omega) (by omega) (by omega) (by omega) (by omega) (by omega))
    obtain ⟨hek1, hek2⟩ : r32 ek := by rw [← i13]; exact hz1.1 138 13
    have h9 := evF_9 (E := sx.1.1) (l := (exEx e 3 (p + 1)).2.2)
    obtain ⟨ef, hef⟩ : ∃ q : Nat, evF sx.1.1 (exEx e 3 (p + 1)).2.2 = q := ⟨_, rfl⟩
    rcases hd2 with hs | hs
    · refine And.intro ⟨(by omega), (zRb rfl)⟩ ⟨(fun h14 => False.elim (by omega)), fun h14 => ?_⟩
      refine And.intro (by omega) ⟨(fun h19 => False.elim (by omega)), fun h19 => ?_⟩
      refine And.intro (zA_138 hS) (Exists.intro _ (And.intro (zinl_ok (zT4_15 (hh + 4))) (And.intro rfl ?_)))
      refine And.intro (zA_138 hS) (zrd (v := st) i12 ?_)
      refine And.intro (by omega) ⟨(fun h4_23 => False.elim (by omega)), fun h4_23 => ?_⟩
      refine And.intro (zA_138 hS) (zrd (v := ek) i13 ?_)
      refine And.intro (by omega) ⟨(fun h11_23 => False.elim (by omega)), fun h11_23 => ?_⟩
      refine And.intro (Or.inr rfl) ?_
      refine And.intro (zRb rfl) (zbf rfl ?_)
      refine And.intro (zA_138 hS) (Exists.intro _ (And.intro (zinl_ok (zT4_25 (hh + 4))) (And.intro rfl ?_)))
      refine And.intro (zA_138 hS) (zrd (v := (M.2.2.1 - sx.2.1)) x11 ?_)
      refine And.intro (by omega) ⟨fun h4_30 => ?_, fun h4_30 => ?_⟩
      · refine And.intro (zA_138 hS) (zrd (v := (M.2.2.1 - sx.2.1)) x11 ?_)
        refine And.intro (zA_138 hS) ⟨_, (zWi (by omega)), ?_⟩
        refine And.intro (Or.inr rfl) ?_
        refine And.intro (zRb rfl) (zbf rfl ?_)
        refine And.intro (zA_138 hS) ⟨_, sn_E_rki.up (Nat.le_trans (show 27 ≤ 29 by decide) (Nat.le_trans h29 (Nat.le_add_right hh 5))), ?_⟩
        refine ⟨k, n, e, (p + 1), p, sx.1.1, rfl, hS, hR, hD, (by first | exact hk | (clear hQ; grind [xu])), (zEt_fr hE_1 (fun c j h => zxcj (by omega) rfl)), hsc, (zEv_fr hW1.1 (fun c j h => zxcj (by omega) rfl) (fun c j h => rfl)), (by omega), hg, (show r32 (p : Int) from ⟨by omega, by omega⟩), ?_⟩
        intro v45o I45o p45hr p45bhv64 p45bbh16 p45bbbfr
        have g45 : (evF sx.1.1 (exEx e 3 (p + 1)).2.2 = 0 ∧ (zWk n e M (wkSp sx) I45o L1 ∧ v45o = evV sx.1.1 (exEx e 3 (p + 1)).2.2)) ∨ (¬ evF sx.1.1 (exEx e 3 (p + 1)).2.2 = 0 ∧ zWk n e M (wkF (wkSp sx) (evF sx.1.1 (exEx e 3 (p + 1)).2.2 : Nat) p 0) I45o L1) := (zWk_rk (s := wkSp sx) p45hr (zWk_sp hW1 (by omega) (fun c j h => zxcj (by omega) rfl) (zxe.trans (by omega))) (fun c j h => p45bbbfr c j (by omega) (by omega) (by omega) (by omega) (by omega)))
        rcases g45 with w45 | w45
        · refine And.intro (zA_138 hS) (zrdR (v := some k) hsc ?_)
          refine And.intro (zA_138 hS) (zrd (v := (((exEx e 3 (p + 1)).2.1 : Nat))) p45bbh16 ?_)
          refine And.intro (zDX hD 0 rfl) ⟨_, sn_S_cl2.up (Nat.le_trans (show 1 ≤ 5 by decide) (Nat.le_add_left 5 hh)), ?_⟩
          refine ⟨k, n, e, ((exEx e 3 (p + 1)).2.1), t1, cl, fn, rfl, hS, hR, hD, (by first | exact hk | (clear hQ; grind [xu])), (zEt_fr hE_1 (fun c j h => ((p45bbbfr c j (by omega) (by omega) (by omega) (by omega) (by omega)).trans (zxcj (by omega) rfl)))), (zCl_fr hC_1 (fun c j h => ((p45bbbfr c j (by omega) (by omega) (by omega) (by omega) (by omega)).trans (zxcj (by omega) rfl)))), hcl, (by omega), ?_⟩
          refine And.intro (zA_138 hS) (Exists.intro _ (And.intro (zinl_ok (zT4_15 (hh + 4))) (And.intro rfl ?_)))
          refine And.intro (zA_138 hS) (zrd (v := st) ((p45bbbfr 138 12 (by omega) (by omega) (by omega) (by omega) (by omega)).trans i12) ?_)
          refine And.intro (by omega) ⟨(fun h4_66 => False.elim (by omega)), fun h4_66 => ?_⟩
          refine And.intro (zA_138 hS) (zrd (v := 0) (zWk_n w45.2.1 (wkGo_sp hs.2.2.2.1)).2.2.1 ?_)
          refine And.intro (zRb rfl) (zbf rfl ?_)
          refine And.intro (Or.inr rfl) ?_
          refine And.intro (zRb rfl) (zbf rfl ?_)
          refine ⟨_, _, ⟨zW6i (by omega), zW6i (zRL rfl)⟩, fun z75 c75 => ?_⟩
          refine And.intro c75.2.2 ⟨fun h76 => ?_, fun h76 => ?_⟩
          · refine And.intro (zRb rfl) (zbt rfl ?_)
            refine ⟨((302 - (m + 1)), 0, 0), zlt6 (by omega), [some (zvr (138)), some (zvi (p)), some (zvi (cc)), some (zvi (d)), some (zvi ((0 : Int))), some (zvi ((t1 + 1))), some (zvi ((m + 1))), none, none], ⟨rfl, rfl, rfl, rfl, rfl, rfl, rfl, rfl⟩, (m + 1), (wkSp sx), 0, (t1 + 1), 0, 0, rfl, rfl, rfl, rfl, rfl, (by omega), (by omega), (show r32 _ from ⟨by omega, by omega⟩), w45.2.1, ((show _ = (st : Int) from ((p45bbbfr 138 12 (by omega) (by omega) (by omega) (by omega) (by omega)).trans i12)).trans (by omega)), ((show _ = (0 : Int) from (zWk_n w45.2.1 (wkGo_sp hs.2.2.2.1)).2.2.1).trans (by omega)), (by omega), (Or.inr ⟨Or.inl rfl, wkZ_t hs.2.2.2.2.1 hs.2.2.2.1 (wkI_e hMi (Or.inr rfl) hs.2.2.2.1 hi (by omega) w45.1 (show evV sx.1.1 (exEx e 3 (p + 1)).2.2 = 0 by have := w45.2.2; omega)), wkV_1 (by omega)⟩), hK1, (fun c j h0 h1 h2 h3 h4 h5 h6 h7 h8 h9 h10 h11 => ((p45bbbfr c j h6 h7 h8 h9 h10).trans (zxcj h4 ((fr c j h0 h1 h2 h3 h4 h5 h6 h7 h8 h9 h10 h11).trans rfl)))), (fun c j h0 h1 h2 h3 h4 => ((frL c j h0 h1 h2 h3 h4).trans rfl))⟩
          · refine And.intro (zRb rfl) (zbf rfl ?_)
            refine And.intro (zA_138 hS) (zrd (v := (((exEx e 3 (p + 1)).2.1 : Nat))) p45bbh16 ?_)
            refine And.intro (zA_138 hS) ⟨_, (sn_E_wbl h29 hB).up (Nat.add_le_add_left (show 3 ≤ 5 by decide) hh), ?_⟩
            refine ⟨k, n, e, cl, fn, G, M, r, ((exEx e 3 (p + 1)).2.1), (i + 1), t1, j1, cc, d, (wkSp sx), rfl, hS, hR, hD, (by first | exact hk | (clear hQ; grind [xu])), (zEt_fr hE_1 (fun c j h => ((p45bbbfr c j (by omega) (by omega) (by omega) (by omega) (by omega)).trans (zxcj (by omega) rfl)))), hsc, (zCl_fr hC_1 (fun c j h => ((p45bbbfr c j (by omega) (by omega) (by omega) (by omega) (by omega)).trans (zxcj (by omega) rfl)))), hA, (by omega), w45.2.1, (wkGo_sp hs.2.2.2.1), hd, hr, hcl, hq, hG, ?_⟩
            intro s98o I98o L98o p98hW p98bhZ p98bbhK p98bbbfr p98bbbbfrL
            refine ⟨((302 - (m + 1)), 0, 0), zlt6 (by omega), [some (zvr (138)), some (zvi (p)), some (zvi (cc)), some (zvi (d)), some (zvi ((1 : Int))), some (zvi ((t1 + 1))), some (zvi ((m + 1))), none, none], ⟨rfl, rfl, rfl, rfl, rfl, rfl, rfl, rfl⟩, (m + 1), s98o, 1, (t1 + 1), (I98o 138 12), (I98o 138 13), rfl, rfl, rfl, rfl, rfl, (by omega), (by omega), (show r32 _ from ⟨by omega, by omega⟩), p98hW, rfl, rfl, (by have q := p98hW.2.2.2.2.1; omega), (by by_cases g : wkGo s98o; exact Or.inl ⟨rfl, ⟨p98hW.2.2.2.2.1.1.trans (by rw [g.1]; rfl), p98hW.2.2.2.2.2.1.trans (by rw [g.2])⟩, (by have q : sx.2.1 + 1 ≤ s98o.2.1 := wkZ_m p98bhZ; omega), g, (wkI_j (wkI_b (wkZ_t hs.2.2.2.2.1 hs.2.2.2.1 (wkI_t hMi (Or.inr rfl) hs.2.2.2.1 hi (by omega) w45.1 (show ¬ evV sx.1.1 (exEx e 3 (p + 1)).2.2 = 0 by have := w45.2.2; omega))) (wkGo_sp hs.2.2.2.1) p98bhZ) hj1.1 hj1.2 hjt), True.intro⟩; exact Or.inr ⟨Or.inr (wkZ_no p98bhZ p98hW g), wkZ_a (wkI_j (wkI_b (wkZ_t hs.2.2.2.2.1 hs.2.2.2.1 (wkI_t hMi (Or.inr rfl) hs.2.2.2.1 hi (by omega) w45.1 (show ¬ evV sx.1.1 (exEx e 3 (p + 1)).2.2 = 0 by have := w45.2.2; omega))) (wkGo_sp hs.2.2.2.1) p98bhZ) hj1.1 hj1.2 hjt) g, wkV_0 g⟩), (fun x hx => (p98bbhK x (by omega)).trans (hK1 x hx)), (fun c j h0 h1 h2 h3 h4 h5 h6 h7 h8 h9 h10 h11 => ((p98bbbfr c j h0 h1 h2 h3 h4 h5 h6 h7 h8 h9 h10 h11).trans ((p45bbbfr c j h6 h7 h8 h9 h10).trans (zxcj h4 ((fr c j h0 h1 h2 h3 h4 h5 h6 h7 h8 h9 h10 h11).trans rfl))))), (fun c j h0 h1 h2 h3 h4 => ((p98bbbbfrL c j h0 h1 h2 h3 h4).trans ((frL c j h0 h1 h2 h3 h4).trans rfl)))⟩
        · refine And.intro (zA_138 hS) (zrdR (v := some k) hsc ?_)
          refine And.intro (zA_138 hS) (zrd (v := (((exEx e 3 (p + 1)).2.1 : Nat))) p45bbh16 ?_)
          refine And.intro (zDX hD 0 rfl) ⟨_, sn_S_cl2.up (Nat.le_trans (show 1 ≤ 5 by decide) (Nat.le_add_left 5 hh)), ?_⟩
          refine ⟨k, n, e, ((exEx e 3 (p + 1)).2.1), t1, cl, fn, rfl, hS, hR, hD, (by first | exact hk | (clear hQ; grind [xu])), (zEt_fr hE_1 (fun c j h => ((p45bbbfr c j (by omega) (by omega) (by omega) (by omega) (by omega)).trans (zxcj (by omega) rfl)))), (zCl_fr hC_1 (fun c j h => ((p45bbbfr c j (by omega) (by omega) (by omega) (by omega) (by omega)).trans (zxcj (by omega) rfl)))), hcl, (by omega), ?_⟩
          refine And.intro (zA_138 hS) (Exists.intro _ (And.intro (zinl_ok (zT4_15 (hh + 4))) (And.intro rfl ?_)))
          refine And.intro (zA_138 hS) (zrd (v := st) ((p45bbbfr 138 12 (by omega) (by omega) (by omega) (by omega) (by omega)).trans i12) ?_)
          refine And.intro (by omega) ⟨(fun h4_66 => False.elim (by omega)), fun h4_66 => ?_⟩
          refine And.intro (zA_138 hS) (zrd (v := ef) (w45.2.2.2.2.2.2.1.trans (congrArg (fun q : Nat => (q : Int)) hef)) ?_)
          refine And.intro (by omega) ⟨fun h11_66 => ?_, (fun h11_66 => False.elim (by omega))⟩
          refine And.intro (Or.inl rfl) ?_
          refine And.intro (zRb rfl) (zbt rfl ?_)
          refine And.intro (zRb rfl) (zbt rfl ?_)
          refine ⟨((302 - (m + 1)), 0, 0), zlt6 (by omega), [some (zvr (138)), some (zvi (p)), some (zvi (cc)), some (zvi (d)), some (zvi ((0 : Int))), some (zvi ((t1 + 1))), some (zvi ((m + 1))), none, none], ⟨rfl, rfl, rfl, rfl, rfl, rfl, rfl, rfl⟩, (m + 1), (wkF (wkSp sx) (evF sx.1.1 (exEx e 3 (p + 1)).2.2 : Nat) p 0), 0, (t1 + 1), 0, ((evF sx.1.1 (exEx e 3 (p + 1)).2.2 : Nat) : Int), rfl, rfl, rfl, rfl, rfl, (by omega), (by omega), (show r32 _ from ⟨by omega, by omega⟩), w45.2, ((show _ = (st : Int) from ((p45bbbfr 138 12 (by omega) (by omega) (by omega) (by omega) (by omega)).trans i12)).trans (by omega)), ((show _ = (ef : Int) from (w45.2.2.2.2.2.2.1.trans (congrArg (fun q : Nat => (q : Int)) hef))).trans (by omega)), (by omega), (Or.inr ⟨Or.inl rfl, wkZ_t hs.2.2.2.2.1 hs.2.2.2.1 (wkI_f (j := j1 + 1) hMi (Or.inr rfl) hs.2.2.2.1 hi (by omega) w45.1), wkV_0 (wkF_no (wkN w45.1))⟩), hK1, (fun c j h0 h1 h2 h3 h4 h5 h6 h7 h8 h9 h10 h11 => ((p45bbbfr c j h6 h7 h8 h9 h10).trans (zxcj h4 ((fr c j h0 h1 h2 h3 h4 h5 h6 h7 h8 h9 h10 h11).trans rfl)))), (fun c j h0 h1 h2 h3 h4 => ((frL c j h0 h1 h2 h3 h4).trans rfl))⟩
      · refine And.intro ⟨(zA_138 hS), (Or.inr rfl)⟩ ?_
        refine And.intro (Or.inl rfl) ?_
        refine And.intro (zRb rfl) (zbt rfl ?_)
        refine And.intro (zRb rfl) (zbt rfl ?_)
        refine ⟨((302 - (m + 1)), 0, 0), zlt6 (by omega), [some (zvr (138)), some (zvi (p)), some (zvi (cc)), some (zvi (d)), some (zvi ((0 : Int))), some (zvi (nx)), some (zvi ((m + 1))), none, none], ⟨rfl, rfl, rfl, rfl, rfl, rfl, rfl, rfl⟩, (m + 1), (wkSt sx), 0, nx, 1, 0, rfl, rfl, rfl, rfl, rfl, (by omega), (by omega), hnx, (zWk_st hW1 (fun c j h => zxcj (by omega) rfl) zxe), ((show _ = (1 : Int) from rfl).trans (by omega)), ((show _ = (ek : Int) from i13).trans (by omega)), (by omega), (Or.inr ⟨Or.inl rfl, wkZ_t hs.2.2.2.2.1 hs.2.2.2.1 (wkL_n hMi hi (by omega)), wkV_0 wkSt_no⟩), hK1, (fun c j h0 h1 h2 h3 h4 h5 h6 h7 h8 h9 h10 h11 => (zxcj h5 ((fr c j h0 h1 h2 h3 h4 h5 h6 h7 h8 h9 h10 h11).trans rfl))), (fun c j h0 h1 h2 h3 h4 => ((frL c j h0 h1 h2 h3 h4).trans rfl))⟩
    · refine And.intro ⟨(by omega), (zRb rfl)⟩ ⟨fun h14 => ?_, fun h14 => ?_⟩
      · refine hQ _ _ _ _ hs.2.2 hnx hW1 hs.2.1 hK1 (fun c j h0 h1 h2 h3 h4 h5 h6 h7 h8 h9 h10 h11 => ((fr c j h0 h1 h2 h3 h4 h5 h6 h7 h8 h9 h10 h11).trans rfl)) (fun c j h0 h1 h2 h3 h4 => ((frL c j h0 h1 h2 h3 h4).trans rfl))
      · refine And.intro (by omega) ⟨fun h19 => ?_, fun h19 => ?_⟩
        · refine hQ _ _ _ _ hs.2.2 hnx hW1 hs.2.1 hK1 (fun c j h0 h1 h2 h3 h4 h5 h6 h7 h8 h9 h10 h11 => ((fr c j h0 h1 h2 h3 h4 h5 h6 h7 h8 h9 h10 h11).trans rfl)) (fun c j h0 h1 h2 h3 h4 => ((frL c j h0 h1 h2 h3 h4).trans rfl))
        · refine And.intro (zA_138 hS) (Exists.intro _ (And.intro (zinl_ok (zT4_15 (hh + 4))) (And.intro rfl ?_)))
          refine And.intro (zA_138 hS) (zrd (v := st) i12 ?_)
          refine And.intro (by omega) ⟨fun h4_23 => ?_, fun h4_23 => ?_⟩
          · refine And.intro (Or.inl rfl) ?_
            refine And.intro (zRb rfl) (zbt rfl ?_)
            refine hQ _ _ _ _ hs.2.2 hnx hW1 hs.2.1 hK1 (fun c j h0 h1 h2 h3 h4 h5 h6 h7 h8 h9 h10 h11 => ((fr c j h0 h1 h2 h3 h4 h5 h6 h7 h8 h9 h10 h11).trans rfl)) (fun c j h0 h1 h2 h3 h4 => ((frL c j h0 h1 h2 h3 h4).trans rfl))
          · refine And.intro (zA_138 hS) (zrd (v := ek) i13 ?_)
            refine And.intro (by omega) ⟨fun h11_23 => ?_, fun h11_23 => ?_⟩
            · refine And.intro (Or.inl rfl) ?_
              refine And.intro (zRb rfl) (zbt rfl ?_)
              refine hQ _ _ _ _ hs.2.2 hnx hW1 hs.2.1 hK1 (fun c j h0 h1 h2 h3 h4 h5 h6 h7 h8 h9 h10 h11 => ((fr c j h0 h1 h2 h3 h4 h5 h6 h7 h8 h9 h10 h11).trans rfl)) (fun c j h0 h1 h2 h3 h4 => ((frL c j h0 h1 h2 h3 h4).trans rfl))
            · exact False.elim (by omega))
