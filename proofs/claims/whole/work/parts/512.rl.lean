/-! rl -/
def T_K_rdl : ZT := fun args I L R S Q => ∃ (c : Nat → Int) (n : Nat) (k : Nat) (s : TyS) (p : Nat) (y : Int), args = [zvr 61, zvi y] ∧ (zSh S) ∧ (zRs R) ∧ (zSt I L) ∧ (R 61 0 = some 42) ∧ (zRD c n I) ∧ (tOk c n) ∧ (I 61 2 = p) ∧ (c p = 40) ∧ (R 61 7 = some k) ∧ (zDy zT2 zF2 k R S) ∧ (43 ≤ k ∧ k ≤ 52) ∧ (I 61 6 = (1 : Nat)) ∧ (zKO k c n 1 s I L) ∧ (I 61 4 = tyd s) ∧ (I 61 5 = tyx s) ∧ (typ s ≤ p) ∧ (tyg c n 1 s) ∧ (tyd s = 0 → tyn s = 0) ∧ (y = tyy s (tyd s)) ∧ (I 61 3 = -1) ∧ ∀ (v : Int) (I' : ZI) (L' : ZI) (pl : Int), (I' 61 3 = tyf (tyL c n s p)) → (tyf (tyL c n s p) = -1 → zKO k c n 1 (tyL c n s p) I' L' ∧ I' 61 2 = typ (tyL c n s p) ∧ I' 61 4 = tyd (tyL c n s p) ∧ I' 61 5 = tyx (tyL c n s p) ∧ v = tyy (tyL c n s p) (tyd (tyL c n s p))) → (-1 ≤ v ∧ v ≤ 199) → (∀ c j : Nat, ¬ (c = 61 ∧ j = 2) → ¬ (c = 61 ∧ j = 3) → ¬ (c = 61 ∧ j = 4) → ¬ (c = 61 ∧ j = 5) → ¬ (c = k ∧ j = 0) → ¬ (c = k ∧ j = 2) → ¬ (c = k ∧ j = 10) → ¬ c = k + 1 → ¬ c = k + 2 → ¬ c = k + 3 → ¬ c = k + 5 → ¬ c = k + 6 → ¬ c = k + 7 → I' c j = I c j) → (∀ c j : Nat, ¬ c = k + 4 → L' c j = L c j) → (I' 61 2 = pl) → (0 ≤ pl ∧ pl ≤ 4200) → Q (some (zvi (v))) I' L' R S
theorem sn_K_rdl : ZSnd 5 9 18 T_K_rdl := ZSnd.of (zT9_18 4) (by
  rintro args I L R S Q hz ⟨c, n, k, s, p, y, rfl, hS, hR, hT, htx, hX, hc, hp, hcp, hob, hD, hk, hnb, hs, hod, hxv, htp, hg, hne, hy, hf0, hQ⟩
  obtain ⟨x1, x2⟩ := id hX
  have hn4 := hc.1
  have hk1 := hk.1
  have hk2 := hk.2
  obtain ⟨s0, s2, s10, srow⟩ := id hs
  obtain ⟨⟨b1, b2, b3, b4, b5, b6, b7, b8, b9⟩, bst, brow⟩ := id hg
  have b6_ := b6 rfl
  have pn : p < n := by rcases Nat.lt_or_ge p n with z | z; exact z; (have z2 := hc.2.2 p z; omega)
  have yz := tyz_b hg (Nat.le_refl (tyd s))
  have hnm := tSk_b (P := tBk) (p := p + 1) hc tBk_no
  have hkb := tKd_b (c := c) (p := (tSk tBk c n (p + 1))) (q := (tSk tSm c n (tSk tBk c n (p + 1))))
  obtain ⟨cc, hcc⟩ : ∃ cc : Nat, I k 10 = cc := ⟨(I k 10).toNat, by omega⟩
  have yzb : -1 ≤ tyy s (tyd s) ∧ tyy s (tyd s) ≤ 199 := by rcases yz with z | z <;> omega
  have hd0 : tyd s = 0 ↔ tyn s = 0 := ⟨hne, fun w => by omega⟩
  refine And.intro rfl ?_
  refine And.intro (zA_61 hS) (zrd (v := p) hp ?_)
  refine And.intro (zA_61 hS) (zrd (v := (tyd s)) hod ?_)
  refine And.intro ⟨(by omega), (zRb rfl)⟩ ⟨fun h11 => ?_, fun h11 => ?_⟩
  · refine And.intro (zA_61 hS) (zrd (v := (tyd s)) hod ?_)
    refine And.intro (zA_61 hS) ⟨_, (zWi (by omega)), ?_⟩
    refine And.intro (zA_61 hS) (zrd (v := p) hp ?_)
    refine And.intro (zA_61 hS) ⟨_, (zWi (by omega)), ?_⟩
    refine And.intro (zA_61 hS) ⟨_, sn_K_skB.up (by decide), ?_⟩
    refine ⟨c, n, (p + 1), rfl, hS, hR, htx, (by first | exact (zRD_fr hX (fun c j h => (zxcj (by omega) (zxcj (by omega) rfl)))) | (clear hQ; grind [xu])), (by first | exact hc | (clear hQ; grind [xu])), rfl, (by omega), ?_⟩
    intro I45o p45hpl p45bfr
    refine And.intro (zA_61 hS) (zrd (v := (tSk tBk c n (p + 1))) p45hpl ?_)
    refine And.intro (zA_61 hS) ⟨_, sn_K_nam.up (by decide), ?_⟩
    refine ⟨c, n, (tSk tBk c n (p + 1)), k, (tyn s), y, (tyz s (tyd s)), cc, ((tyd s - 1 : Nat) : Int), rfl, hS, hR, (zStf hT (fun c j h1 h2 => ⟨((p45bfr c j (by omega)).trans (zxu (by omega) (zxu (by omega) rfl))), rfl⟩)), htx, (by first | exact (zRD_fr hX (fun c j h => ((p45bfr c j (by omega)).trans (zxcj (by omega) (zxcj (by omega) rfl))))) | (clear hQ; grind [xu])), (by first | exact hc | (clear hQ; grind [xu])), (Eq.trans (b := ((tSk tBk c n (p + 1)) : Int)) p45hpl (by omega)), (by omega), hob, hD, (by omega), ((p45bfr k 0 (by omega)).trans (zxu (by omega) (zxu (by omega) s0))), (by omega), (by rw [hy]; rcases yz with z | z <;> omega), (by rcases yz with z | z; exact Or.inl ⟨by omega, z.2.2⟩; (refine Or.inr ⟨by omega, ?_, by omega, by omega⟩; rw [hy, z.2.2.2.1]; exact (((p45bfr (k + 1) _ (by omega)).trans (zxcj (by omega) (zxcj (by omega) rfl))).trans (srow (tyy s (tyd s)).toNat (by omega)).1.1))), ((p45bfr k 10 (by omega)).trans (zxu (by omega) (zxu (by omega) hcc))), (by omega), (fun h9 => by rcases yz with z | z; (exfalso; omega); (rw [hy]; exact (((p45bfr (k + 3) _ (by omega)).trans (zxcj (by omega) (zxcj (by omega) rfl))).trans (srow (tyy s (tyd s)).toNat (by omega)).1.2.2).trans (by omega))), (by omega), (Eq.trans (b := ((-1) : Int)) ((p45bfr 61 3 (by omega)).trans hf0) (by omega)), ?_⟩
    intro v55o I55o L55o pl55o p55hg p55bhv p55bbfr p55bbbfrL p55bbbbhpl9 p55bbbbbhpb9
    rcases p55hg with w55 | w55
    · refine And.intro ⟨(by omega), (zRb rfl)⟩ ⟨fun h63 => ?_, (fun h63 => False.elim (by omega))⟩
      have t63 : tyn s ≤ 199 ∧ (tSk tSm c n (tSk tBk c n (p + 1))) ≤ n ∧ (tSk tBk c n (p + 1)) < (tSk tSm c n (tSk tBk c n (p + 1))) := (by have z := tSm_s hc w55.1.1; have z2 := w55.1.2.2; exact ⟨by omega, z.2.1, z.1⟩)
      refine And.intro (zA_61 hS) (zrdR (v := some k) hob ?_)
      refine And.intro (zDX hD 0 rfl) (Exists.intro _ (And.intro (zinl_ok (zT2_16 3)) (And.intro rfl ?_)))
      refine And.intro (zDX hD 0 rfl) (Exists.intro _ (And.intro (zinl_ok (zT2_14 2)) (And.intro rfl ?_)))
      refine And.intro (by omega) ⟨(fun h1_74_2 => False.elim (by omega)), fun h1_74_2 => ?_⟩
      refine And.intro (zDX hD 0 rfl) (zrd (v := ((tyn s : Int) + 1)) w55.2.2.2.2.1 ?_)
      refine And.intro ⟨(by omega), (by omega)⟩ ⟨fun h9_74_2 => ?_, fun h9_74_2 => ?_⟩
      · refine And.intro (Or.inl rfl) ?_
        refine And.intro (zRb rfl) (zbt rfl ?_)
        refine And.intro ⟨(zRb rfl), (zRb rfl)⟩ (zbt rfl ?_)
        refine And.intro (zA_61 hS) ⟨_, sn_K_vals.up (by decide), ?_⟩
        refine ⟨c, n, (tSk tSm c n (tSk tBk c n (p + 1))), k, ((tyn s : Int) + 1), (v55o : Int), (tyn s), ((tKd c (tSk tBk c n (p + 1)) (tSk tSm c n (tSk tBk c n (p + 1)))).toNat), (tyx s), 1, cc, rfl, hS, hR, (zStf hT (fun c j h1 h2 => ⟨((p55bbfr c j (by omega) (by omega) (by omega) (by omega) (by omega) (by omega) (by omega) (by omega)).trans ((p45bfr c j (by omega)).trans (zxu (by omega) (zxu (by omega) rfl)))), ((p55bbbfrL c j (by omega)).trans rfl)⟩)), htx, (by first | exact (zRD_fr hX (fun c j h => ((p55bbfr c j (by omega) (by omega) (by omega) (by omega) (by omega) (by omega) (by omega) (by omega)).trans ((p45bfr c j (by omega)).trans (zxcj (by omega) (zxcj (by omega) rfl)))))) | (clear hQ; grind [xu])), (by first | exact hc | (clear hQ; grind [xu])), (Eq.trans (b := (((tSk tSm c n (tSk tBk c n (p + 1)))) : Int)) w55.2.2.2.1 (by omega)), (tSm_s hc w55.1.1).2.1, ((p55bbfr 61 6 (by omega) (by omega) (by omega) (by omega) (by omega) (by omega) (by omega) (by omega)).trans ((p45bfr 61 6 (by omega)).trans hnb)), (by omega), hob, hD, (by omega), w55.2.2.2.2.1, (by omega), (by omega), (w55.2.2.2.2.2.1.trans (by omega)), (by omega), ((p55bbfr 61 5 (by omega) (by omega) (by omega) (by omega) (by omega) (by omega) (by omega) (by omega)).trans ((p45bfr 61 5 (by omega)).trans hxv)), (by omega), (Eq.trans (b := ((-1) : Int)) w55.2.2.1 (by omega)), ((p55bbfr k 10 (by omega) (by omega) (by omega) (by omega) (by omega) (by omega) (by omega) (by omega)).trans ((p45bfr k 10 (by omega)).trans (zxu (by omega) (zxu (by omega) hcc)))), (by have z := tSm_s hc w55.1.1; omega), (fun w hw => (w55.2.2.2.2.2.2.2.2.1 w hw).2), ?_⟩
        intro I94o L94o pl94o p94hf p94bhok p94bbfr p94bbbfrL p94bbbbhpl9 p94bbbbbhpb9
        refine hQ _ _ _ (pl94o : Int) ?_ ?_ (by omega) (fun c j h0 h1 h2 h3 h4 h5 h6 h7 h8 h9 h10 h11 h12 => ((p94bbfr c j h0 h1 h3 h6 (fun w => h10 w.1) (fun w => h11 w.1) (fun w => h12 w.1)).trans ((p55bbfr c j h0 h1 h4 (fun w => h7 w.1) (fun w => h8 w.1) (fun w => h9 w.1) (fun w => h10 w.1) (fun w => h11 w.1)).trans ((p45bfr c j h0).trans (zxcj h0 (zxcj h2 rfl)))))) (fun c j h0 => ((p94bbbfrL c j (fun w => h0 w.1)).trans ((p55bbbfrL c j (fun w => h0 w.1)).trans rfl))) p94bbbbhpl9 (by omega)
        · first
          | (rw [show tyL c n s p = tyF s p from if_pos (by omega)]
             exact zxe)
          | (rw [show tyL c n s p = tyG c n 1 s (tSk tBk c n (p + 1)) p (tyd s) from if_neg (by omega)]
             first
             | (rw [tyG_n w55.1]
                exact w55.2.2)
             | (rw [tyG_t w55.1, tyB_9 (show (tKd c (tSk tBk c n (p + 1)) (tSk tSm c n (tSk tBk c n (p + 1)))) = 9 by omega), tkX_1]
                exact p86hf)
             | (rw [tyG_t w55.1, tyB_8 hc (tSm_s hc w55.1.1).2.1 (show (tKd c (tSk tBk c n (p + 1)) (tSk tSm c n (tSk tBk c n (p + 1)))) ≠ 9 by omega)]
                exact p94hf))
        · intro h9
          first
          | (exfalso
             rw [show tyL c n s p = tyF s p from if_pos (by omega)] at h9
             exact tyF_f h9)
          | (rw [show tyL c n s p = tyG c n 1 s (tSk tBk c n (p + 1)) p (tyd s) from if_neg (by omega)] at h9 ⊢
             first
             | (exfalso
                rw [tyG_n w55.1] at h9
                exact tyF_f h9)
             | (rw [tyG_t w55.1] at h9 ⊢
                have hx : tuX c n (p + 2000 - tyk s) (tyd s) (tSk tSm c n (tSk tBk c n (p + 1))) = -1 := by
                  rw [tyB_9 (show (tKd c (tSk tBk c n (p + 1)) (tSk tSm c n (tSk tBk c n (p + 1)))) = 9 by omega), tkX_1] at h9
                  exact h9
                have y2 := p86bhok hx
                have eb := tuX_b hc hx
                have em := tSm_s hc w55.1.1
                have e9 : (tKd c (tSk tBk c n (p + 1)) (tSk tSm c n (tSk tBk c n (p + 1)))).toNat = 9 := by omega
                rw [tyB_u (show (tKd c (tSk tBk c n (p + 1)) (tSk tSm c n (tSk tBk c n (p + 1)))) = 9 by omega) (tkX_1.trans hx), tkE_1]
                refine ⟨zKO_U hs hcc (by omega) (by omega) (by omega) ((p86bbfr k 0 (by omega) (by omega) (by omega) (by omega) (by omega) (by omega) (by omega) (by omega)).trans w55.2.2.2.2.1) y2.2.2.1 ⟨(p86bbfr (k + 1) _ (by omega) (by omega) (by omega) (by omega) (by omega) (by omega) (by omega) (by omega)).trans (w55.2.2.2.2.2.1.trans (by omega)), (p86bbfr (k + 2) _ (by omega) (by omega) (by omega) (by omega) (by omega) (by omega) (by omega) (by omega)).trans (w55.2.2.2.2.2.2.1.trans hy), (p86bbfr (k + 3) _ (by omega) (by omega) (by omega) (by omega) (by omega) (by omega) (by omega) (by omega)).trans (by have z := w55.2.2.2.2.2.2.2.1; omega)⟩ y2.2.2.2.1
                  (fun w hw => (w55.2.2.2.2.2.2.2.2.2 w hw).trans (by rw [e9])) ⟨y2.2.2.2.2.1, y2.2.2.2.2.2.1⟩ ⟨(p86bbfr (k + 5) _ (by omega) (by omega) (by omega) (by omega) (by omega) (by omega) (by omega) (by omega)).trans (w55.2.2.2.2.2.2.2.2.1 1 (by decide)).1, (p86bbfr (k + 6) _ (by omega) (by omega) (by omega) (by omega) (by omega) (by omega) (by omega) (by omega)).trans (w55.2.2.2.2.2.2.2.2.1 1 (by decide)).2⟩ y2.2.2.2.2.2.2
                  (fun x j hx hj => (p86bbfr x j (by omega) (by omega) (by omega) (by omega) (by omega) (by omega) (by omega) (by omega)).trans ((p55bbfr x j (by omega) (by omega) (by omega) (by omega) (by omega) (by omega) (by omega) (by omega)).trans ((p45bfr x j (by omega)).trans (zxu (by omega) (zxu (by omega) rfl))))) (fun x j hx hj => (p86bbfr x j (by omega) (by omega) (by omega) (by omega) (by omega) (by omega) (by omega) (by omega)).trans ((p55bbfr x j (by omega) (by omega) (by omega) (by omega) (by omega) (by omega) (by omega) (by omega)).trans ((p45bfr x j (by omega)).trans (zxu (by omega) (zxu (by omega) rfl))))) (fun j hj => (p86bbfr (k + 7) j (by omega) (by omega) (by omega) (by omega) (by omega) (by omega) (by omega) (by omega)).trans ((p55bbfr (k + 7) j (by omega) (by omega) (by omega) (by omega) (by omega) (by omega) (by omega) (by omega)).trans ((p45bfr (k + 7) j (by omega)).trans (zxu (by omega) (zxu (by omega) rfl))))) (fun j hj => p55bbbfrL (k + 4) j (by omega)), y2.1, y2.2.1, (p86bbfr 61 5 (by omega) (by omega) (by omega) (by omega) (by omega) (by omega) (by omega) (by omega)).trans ((p55bbfr 61 5 (by omega) (by omega) (by omega) (by omega) (by omega) (by omega) (by omega) (by omega)).trans ((p45bfr 61 5 (by omega)).trans (zxs (by omega) (zxs (by omega) hxv)))), hy⟩)
             | (rw [tyG_t w55.1] at h9 ⊢
                have hx : tVz c n 1 (tKd c (tSk tBk c n (p + 1)) (tSk tSm c n (tSk tBk c n (p + 1)))).toNat (tSk tSm c n (tSk tBk c n (p + 1))) (tFv (tKd c (tSk tBk c n (p + 1)) (tSk tSm c n (tSk tBk c n (p + 1)))).toNat (tyx s)) = -1 := by
                  rw [tyB_8 hc (tSm_s hc w55.1.1).2.1 (show (tKd c (tSk tBk c n (p + 1)) (tSk tSm c n (tSk tBk c n (p + 1)))) ≠ 9 by omega)] at h9
                  exact h9
                have y2 := p94bhok hx
                have em := tSm_s hc w55.1.1
                rw [tyB_v (show (tKd c (tSk tBk c n (p + 1)) (tSk tSm c n (tSk tBk c n (p + 1)))) ≠ 9 by omega) hx (fun w => absurd w (by decide))]
                refine ⟨zKO_O hs (a_ := (tKd c (tSk tBk c n (p + 1)) (tSk tSm c n (tSk tBk c n (p + 1)))).toNat) (by omega) (by omega) hcc ((p94bbfr k 0 (by omega) (by omega) (by omega) (by omega) (by omega) (by omega) (by omega)).trans w55.2.2.2.2.1) ((p94bbfr k 2 (by omega) (by omega) (by omega) (by omega) (by omega) (by omega) (by omega)).trans ((p55bbfr k 2 (by omega) (by omega) (by omega) (by omega) (by omega) (by omega) (by omega) (by omega)).trans ((p45bfr k 2 (by omega)).trans (zxu (by omega) (zxu (by omega) s2))))) ⟨(p94bbfr (k + 1) _ (by omega) (by omega) (by omega) (by omega) (by omega) (by omega) (by omega)).trans w55.2.2.2.2.2.1, (p94bbfr (k + 2) _ (by omega) (by omega) (by omega) (by omega) (by omega) (by omega) (by omega)).trans (w55.2.2.2.2.2.2.1.trans hy), (p94bbfr (k + 3) _ (by omega) (by omega) (by omega) (by omega) (by omega) (by omega) (by omega)).trans (by have z := w55.2.2.2.2.2.2.2.1; omega)⟩ ⟨y2.2.2.1, y2.2.2.2.1⟩ y2.2.2.2.2
                  (fun w h1 h2 => (p94bbbfrL (k + 4) _ (by omega)).trans (w55.2.2.2.2.2.2.2.2.2 w h2)) (fun w h1 h2 => ⟨(p94bbfr (k + 5) _ (by omega) (by omega) (by omega) (by omega) (by omega) (by omega) (by omega)).trans (w55.2.2.2.2.2.2.2.2.1 w h2).1, (p94bbfr (k + 6) _ (by omega) (by omega) (by omega) (by omega) (by omega) (by omega) (by omega)).trans (w55.2.2.2.2.2.2.2.2.1 w h2).2⟩)
                  (fun x j hx hj => (p94bbfr x j (by omega) (by omega) (by omega) (by omega) (by omega) (by omega) (by omega)).trans ((p55bbfr x j (by omega) (by omega) (by omega) (by omega) (by omega) (by omega) (by omega) (by omega)).trans ((p45bfr x j (by omega)).trans (zxu (by omega) (zxu (by omega) rfl))))) (fun x j hx hj => (p94bbfr x j (by omega) (by omega) (by omega) (by omega) (by omega) (by omega) (by omega)).trans ((p55bbfr x j (by omega) (by omega) (by omega) (by omega) (by omega) (by omega) (by omega) (by omega)).trans ((p45bfr x j (by omega)).trans (zxu (by omega) (zxu (by omega) rfl))))) (fun j hj => (p94bbfr (k + 7) j (by omega) (by omega) (by omega) (by omega) (by omega) (by omega) (by omega)).trans ((p55bbfr (k + 7) j (by omega) (by omega) (by omega) (by omega) (by omega) (by omega) (by omega) (by omega)).trans ((p45bfr (k + 7) j (by omega)).trans (zxu (by omega) (zxu (by omega) rfl))))) (fun j hj => (p94bbbfrL (k + 4) j (by omega)).trans (p55bbbfrL (k + 4) j (by omega))), y2.1, (p94bbfr 61 4 (by omega) (by omega) (by omega) (by omega) (by omega) (by omega) (by omega)).trans ((p55bbfr 61 4 (by omega) (by omega) (by omega) (by omega) (by omega) (by omega) (by omega) (by omega)).trans ((p45bfr 61 4 (by omega)).trans (zxs (by omega) zxe))), y2.2.1, w55.2.1.trans tyy_O.symm⟩))
      · refine And.intro (Or.inr rfl) ?_
        refine And.intro (zRb rfl) (zbf rfl ?_)
        refine And.intro (zDX hD 0 rfl) (zrdR (v := some (k + 1)) (zDR hD 0 rfl) ?_)
        refine And.intro (zDP hD 1 rfl rfl (by omega) (by omega)) (fun v13_74 e13_74 r13_74 => ?_)
        have f13_74 : v13_74 = (tKd c (tSk tBk c n (p + 1)) (tSk tSm c n (tSk tBk c n (p + 1)))) := (e13_74.trans ((congrArg (I55o (k + 1)) (by omega)).trans w55.2.2.2.2.2.1))
        refine And.intro ⟨r13_74, (zRb rfl)⟩ ⟨fun h79 => ?_, fun h79 => ?_⟩
        · refine And.intro (zA_61 hS) ⟨_, sn_K_vals.up (by decide), ?_⟩
          refine ⟨c, n, (tSk tSm c n (tSk tBk c n (p + 1))), k, ((tyn s : Int) + 1), (v55o : Int), (tyn s), ((tKd c (tSk tBk c n (p + 1)) (tSk tSm c n (tSk tBk c n (p + 1)))).toNat), (tyx s), 1, cc, rfl, hS, hR, (zStf hT (fun c j h1 h2 => ⟨((p55bbfr c j (by omega) (by omega) (by omega) (by omega) (by omega) (by omega) (by omega) (by omega)).trans ((p45bfr c j (by omega)).trans (zxu (by omega) (zxu (by omega) rfl)))), ((p55bbbfrL c j (by omega)).trans rfl)⟩)), htx, (by first | exact (zRD_fr hX (fun c j h => ((p55bbfr c j (by omega) (by omega) (by omega) (by omega) (by omega) (by omega) (by omega) (by omega)).trans ((p45bfr c j (by omega)).trans (zxcj (by omega) (zxcj (by omega) rfl)))))) | (clear hQ; grind [xu])), (by first | exact hc | (clear hQ; grind [xu])), (Eq.trans (b := (((tSk tSm c n (tSk tBk c n (p + 1)))) : Int)) w55.2.2.2.1 (by omega)), (tSm_s hc w55.1.1).2.1, ((p55bbfr 61 6 (by omega) (by omega) (by omega) (by omega) (by omega) (by omega) (by omega) (by omega)).trans ((p45bfr 61 6 (by omega)).trans hnb)), (by omega), hob, hD, (by omega), w55.2.2.2.2.1, (by omega), (by omega), (w55.2.2.2.2.2.1.trans (by omega)), (by omega), ((p55bbfr 61 5 (by omega) (by omega) (by omega) (by omega) (by omega) (by omega) (by omega) (by omega)).trans ((p45bfr 61 5 (by omega)).trans hxv)), (by omega), (Eq.trans (b := ((-1) : Int)) w55.2.2.1 (by omega)), ((p55bbfr k 10 (by omega) (by omega) (by omega) (by omega) (by omega) (by omega) (by omega) (by omega)).trans ((p45bfr k 10 (by omega)).trans (zxu (by omega) (zxu (by omega) hcc)))), (by have z := tSm_s hc w55.1.1; omega), (fun w hw => (w55.2.2.2.2.2.2.2.2.1 w hw).2), ?_⟩
          intro I94o L94o pl94o p94hf p94bhok p94bbfr p94bbbfrL p94bbbbhpl9 p94bbbbbhpb9
          refine hQ _ _ _ (pl94o : Int) ?_ ?_ (by omega) (fun c j h0 h1 h2 h3 h4 h5 h6 h7 h8 h9 h10 h11 h12 => ((p94bbfr c j h0 h1 h3 h6 (fun w => h10 w.1) (fun w => h11 w.1) (fun w => h12 w.1)).trans ((p55bbfr c j h0 h1 h4 (fun w => h7 w.1) (fun w => h8 w.1) (fun w => h9 w.1) (fun w => h10 w.1) (fun w => h11 w.1)).trans ((p45bfr c j h0).trans (zxcj h0 (zxcj h2 rfl)))))) (fun c j h0 => ((p94bbbfrL c j (fun w => h0 w.1)).trans ((p55bbbfrL c j (fun w => h0 w.1)).trans rfl))) p94bbbbhpl9 (by omega)
          · first
            | (rw [show tyL c n s p = tyF s p from if_pos (by omega)]
               exact zxe)
            | (rw [show tyL c n s p = tyG c n 1 s (tSk tBk c n (p + 1)) p (tyd s) from if_neg (by omega)]
               first
               | (rw [tyG_n w55.1]
                  exact w55.2.2)
               | (rw [tyG_t w55.1, tyB_9 (show (tKd c (tSk tBk c n (p + 1)) (tSk tSm c n (tSk tBk c n (p + 1)))) = 9 by omega), tkX_1]
                  exact p86hf)
               | (rw [tyG_t w55.1, tyB_8 hc (tSm_s hc w55.1.1).2.1 (show (tKd c (tSk tBk c n (p + 1)) (tSk tSm c n (tSk tBk c n (p + 1)))) ≠ 9 by omega)]
                  exact p94hf))
          · intro h9
            first
            | (exfalso
               rw [show tyL c n s p = tyF s p from if_pos (by omega)] at h9
               exact tyF_f h9)
            | (rw [show tyL c n s p = tyG c n 1 s (tSk tBk c n (p + 1)) p (tyd s) from if_neg (by omega)] at h9 ⊢
               first
               | (exfalso
                  rw [tyG_n w55.1] at h9
                  exact tyF_f h9)
               | (rw [tyG_t w55.1] at h9 ⊢
                  have hx : tuX c n (p + 2000 - tyk s) (tyd s) (tSk tSm c n (tSk tBk c n (p + 1))) = -1 := by
                    rw [tyB_9 (show (tKd c (tSk tBk c n (p + 1)) (tSk tSm c n (tSk tBk c n (p + 1)))) = 9 by omega), tkX_1] at h9
                    exact h9
                  have y2 := p86bhok hx
                  have eb := tuX_b hc hx
                  have em := tSm_s hc w55.1.1
                  have e9 : (tKd c (tSk tBk c n (p + 1)) (tSk tSm c n (tSk tBk c n (p + 1)))).toNat = 9 := by omega
                  rw [tyB_u (show (tKd c (tSk tBk c n (p + 1)) (tSk tSm c n (tSk tBk c n (p + 1)))) = 9 by omega) (tkX_1.trans hx), tkE_1]
                  refine ⟨zKO_U hs hcc (by omega) (by omega) (by omega) ((p86bbfr k 0 (by omega) (by omega) (by omega) (by omega) (by omega) (by omega) (by omega) (by omega)).trans w55.2.2.2.2.1) y2.2.2.1 ⟨(p86bbfr (k + 1) _ (by omega) (by omega) (by omega) (by omega) (by omega) (by omega) (by omega) (by omega)).trans (w55.2.2.2.2.2.1.trans (by omega)), (p86bbfr (k + 2) _ (by omega) (by omega) (by omega) (by omega) (by omega) (by omega) (by omega) (by omega)).trans (w55.2.2.2.2.2.2.1.trans hy), (p86bbfr (k + 3) _ (by omega) (by omega) (by omega) (by omega) (by omega) (by omega) (by omega) (by omega)).trans (by have z := w55.2.2.2.2.2.2.2.1; omega)⟩ y2.2.2.2.1
                    (fun w hw => (w55.2.2.2.2.2.2.2.2.2 w hw).trans (by rw [e9])) ⟨y2.2.2.2.2.1, y2.2.2.2.2.2.1⟩ ⟨(p86bbfr (k + 5) _ (by omega) (by omega) (by omega) (by omega) (by omega) (by omega) (by omega) (by omega)).trans (w55.2.2.2.2.2.2.2.2.1 1 (by decide)).1, (p86bbfr (k + 6) _ (by omega) (by omega) (by omega) (by omega) (by omega) (by omega) (by omega) (by omega)).trans (w55.2.2.2.2.2.2.2.2.1 1 (by decide)).2⟩ y2.2.2.2.2.2.2
                    (fun x j hx hj => (p86bbfr x j (by omega) (by omega) (by omega) (by omega) (by omega) (by omega) (by omega) (by omega)).trans ((p55bbfr x j (by omega) (by omega) (by omega) (by omega) (by omega) (by omega) (by omega) (by omega)).trans ((p45bfr x j (by omega)).trans (zxu (by omega) (zxu (by omega) rfl))))) (fun x j hx hj => (p86bbfr x j (by omega) (by omega) (by omega) (by omega) (by omega) (by omega) (by omega) (by omega)).trans ((p55bbfr x j (by omega) (by omega) (by omega) (by omega) (by omega) (by omega) (by omega) (by omega)).trans ((p45bfr x j (by omega)).trans (zxu (by omega) (zxu (by omega) rfl))))) (fun j hj => (p86bbfr (k + 7) j (by omega) (by omega) (by omega) (by omega) (by omega) (by omega) (by omega) (by omega)).trans ((p55bbfr (k + 7) j (by omega) (by omega) (by omega) (by omega) (by omega) (by omega) (by omega) (by omega)).trans ((p45bfr (k + 7) j (by omega)).trans (zxu (by omega) (zxu (by omega) rfl))))) (fun j hj => p55bbbfrL (k + 4) j (by omega)), y2.1, y2.2.1, (p86bbfr 61 5 (by omega) (by omega) (by omega) (by omega) (by omega) (by omega) (by omega) (by omega)).trans ((p55bbfr 61 5 (by omega) (by omega) (by omega) (by omega) (by omega) (by omega) (by omega) (by omega)).trans ((p45bfr 61 5 (by omega)).trans (zxs (by omega) (zxs (by omega) hxv)))), hy⟩)
               | (rw [tyG_t w55.1] at h9 ⊢
                  have hx : tVz c n 1 (tKd c (tSk tBk c n (p + 1)) (tSk tSm c n (tSk tBk c n (p + 1)))).toNat (tSk tSm c n (tSk tBk c n (p + 1))) (tFv (tKd c (tSk tBk c n (p + 1)) (tSk tSm c n (tSk tBk c n (p + 1)))).toNat (tyx s)) = -1 := by
                    rw [tyB_8 hc (tSm_s hc w55.1.1).2.1 (show (tKd c (tSk tBk c n (p + 1)) (tSk tSm c n (tSk tBk c n (p + 1)))) ≠ 9 by omega)] at h9
                    exact h9
                  have y2 := p94bhok hx
                  have em := tSm_s hc w55.1.1
                  rw [tyB_v (show (tKd c (tSk tBk c n (p + 1)) (tSk tSm c n (tSk tBk c n (p + 1)))) ≠ 9 by omega) hx (fun w => absurd w (by decide))]
                  refine ⟨zKO_O hs (a_ := (tKd c (tSk tBk c n (p + 1)) (tSk tSm c n (tSk tBk c n (p + 1)))).toNat) (by omega) (by omega) hcc ((p94bbfr k 0 (by omega) (by omega) (by omega) (by omega) (by omega) (by omega) (by omega)).trans w55.2.2.2.2.1) ((p94bbfr k 2 (by omega) (by omega) (by omega) (by omega) (by omega) (by omega) (by omega)).trans ((p55bbfr k 2 (by omega) (by omega) (by omega) (by omega) (by omega) (by omega) (by omega) (by omega)).trans ((p45bfr k 2 (by omega)).trans (zxu (by omega) (zxu (by omega) s2))))) ⟨(p94bbfr (k + 1) _ (by omega) (by omega) (by omega) (by omega) (by omega) (by omega) (by omega)).trans w55.2.2.2.2.2.1, (p94bbfr (k + 2) _ (by omega) (by omega) (by omega) (by omega) (by omega) (by omega) (by omega)).trans (w55.2.2.2.2.2.2.1.trans hy), (p94bbfr (k + 3) _ (by omega) (by omega) (by omega) (by omega) (by omega) (by omega) (by omega)).trans (by have z := w55.2.2.2.2.2.2.2.1; omega)⟩ ⟨y2.2.2.1, y2.2.2.2.1⟩ y2.2.2.2.2
                    (fun w h1 h2 => (p94bbbfrL (k + 4) _ (by omega)).trans (w55.2.2.2.2.2.2.2.2.2 w h2)) (fun w h1 h2 => ⟨(p94bbfr (k + 5) _ (by omega) (by omega) (by omega) (by omega) (by omega) (by omega) (by omega)).trans (w55.2.2.2.2.2.2.2.2.1 w h2).1, (p94bbfr (k + 6) _ (by omega) (by omega) (by omega) (by omega) (by omega) (by omega) (by omega)).trans (w55.2.2.2.2.2.2.2.2.1 w h2).2⟩)
                    (fun x j hx hj => (p94bbfr x j (by omega) (by omega) (by omega) (by omega) (by omega) (by omega) (by omega)).trans ((p55bbfr x j (by omega) (by omega) (by omega) (by omega) (by omega) (by omega) (by omega) (by omega)).trans ((p45bfr x j (by omega)).trans (zxu (by omega) (zxu (by omega) rfl))))) (fun x j hx hj => (p94bbfr x j (by omega) (by omega) (by omega) (by omega) (by omega) (by omega) (by omega)).trans ((p55bbfr x j (by omega) (by omega) (by omega) (by omega) (by omega) (by omega) (by omega) (by omega)).trans ((p45bfr x j (by omega)).trans (zxu (by omega) (zxu (by omega) rfl))))) (fun j hj => (p94bbfr (k + 7) j (by omega) (by omega) (by omega) (by omega) (by omega) (by omega) (by omega)).trans ((p55bbfr (k + 7) j (by omega) (by omega) (by omega) (by omega) (by omega) (by omega) (by omega) (by omega)).trans ((p45bfr (k + 7) j (by omega)).trans (zxu (by omega) (zxu (by omega) rfl))))) (fun j hj => (p94bbbfrL (k + 4) j (by omega)).trans (p55bbbfrL (k + 4) j (by omega))), y2.1, (p94bbfr 61 4 (by omega) (by omega) (by omega) (by omega) (by omega) (by omega) (by omega)).trans ((p55bbfr 61 4 (by omega) (by omega) (by omega) (by omega) (by omega) (by omega) (by omega) (by omega)).trans ((p45bfr 61 4 (by omega)).trans (zxs (by omega) zxe))), y2.2.1, w55.2.1.trans tyy_O.symm⟩))
        · refine And.intro (zA_61 hS) ⟨_, sn_K_kpl.up (by decide), ?_⟩
          refine ⟨c, n, (p + 2000 - tyk s), (tyd s), (tSk tSm c n (tSk tBk c n (p + 1))), k, ((tyn s : Int) + 1), (v55o : Int), (tyn s), (p : Int), p, cc, (tyk s), rfl, hS, hR, htx, (by first | exact (zRD_fr hX (fun c j h => ((p55bbfr c j (by omega) (by omega) (by omega) (by omega) (by omega) (by omega) (by omega) (by omega)).trans ((p45bfr c j (by omega)).trans (zxcj (by omega) (zxcj (by omega) rfl)))))) | (clear hQ; grind [xu])), (by first | exact hc | (clear hQ; grind [xu])), (Eq.trans (b := (((tSk tSm c n (tSk tBk c n (p + 1)))) : Int)) w55.2.2.2.1 (by omega)), (tSm_s hc w55.1.1).2.1, ⟨rfl, by have z := tSm_s hc w55.1.1; omega⟩, hob, hD, (by omega), w55.2.2.2.2.1, (by omega), (by omega), (Eq.trans (b := (((tyd s) + 1) : Int)) ((p55bbfr 61 4 (by omega) (by omega) (by omega) (by omega) (by omega) (by omega) (by omega) (by omega)).trans ((p45bfr 61 4 (by omega)).trans rfl)) (by omega)), (by omega), ((p55bbfr k 2 (by omega) (by omega) (by omega) (by omega) (by omega) (by omega) (by omega) (by omega)).trans ((p45bfr k 2 (by omega)).trans (zxu (by omega) (zxu (by omega) s2)))), (by omega), (by omega), ((p55bbfr k 10 (by omega) (by omega) (by omega) (by omega) (by omega) (by omega) (by omega) (by omega)).trans ((p45bfr k 10 (by omega)).trans (zxu (by omega) (zxu (by omega) hcc)))), (by omega), (w55.2.2.2.2.2.2.2.2.1 0 (by decide)).2, (Eq.trans (b := ((-1) : Int)) w55.2.2.1 (by omega)), ?_⟩
          intro I86o pl86o p86hf p86bhok p86bbfr p86bbbhpl9 p86bbbbhpb9
          refine hQ _ _ _ (pl86o : Int) ?_ ?_ (by omega) (fun c j h0 h1 h2 h3 h4 h5 h6 h7 h8 h9 h10 h11 h12 => ((p86bbfr c j h0 h1 h2 h5 h6 (fun w => h10 w.1) (fun w => h11 w.1) (fun w => h12 w.1)).trans ((p55bbfr c j h0 h1 h4 (fun w => h7 w.1) (fun w => h8 w.1) (fun w => h9 w.1) (fun w => h10 w.1) (fun w => h11 w.1)).trans ((p45bfr c j h0).trans (zxcj h0 (zxcj h2 rfl)))))) (fun c j h0 => ((p55bbbfrL c j (fun w => h0 w.1)).trans rfl)) p86bbbhpl9 (by omega)
          · first
            | (rw [show tyL c n s p = tyF s p from if_pos (by omega)]
               exact zxe)
            | (rw [show tyL c n s p = tyG c n 1 s (tSk tBk c n (p + 1)) p (tyd s) from if_neg (by omega)]
               first
               | (rw [tyG_n w55.1]
                  exact w55.2.2)
               | (rw [tyG_t w55.1, tyB_9 (show (tKd c (tSk tBk c n (p + 1)) (tSk tSm c n (tSk tBk c n (p + 1)))) = 9 by omega), tkX_1]
                  exact p86hf)
               | (rw [tyG_t w55.1, tyB_8 hc (tSm_s hc w55.1.1).2.1 (show (tKd c (tSk tBk c n (p + 1)) (tSk tSm c n (tSk tBk c n (p + 1)))) ≠ 9 by omega)]
                  exact p94hf))
          · intro h9
            first
            | (exfalso
               rw [show tyL c n s p = tyF s p from if_pos (by omega)] at h9
               exact tyF_f h9)
            | (rw [show tyL c n s p = tyG c n 1 s (tSk tBk c n (p + 1)) p (tyd s) from if_neg (by omega)] at h9 ⊢
               first
               | (exfalso
                  rw [tyG_n w55.1] at h9
                  exact tyF_f h9)
               | (rw [tyG_t w55.1] at h9 ⊢
                  have hx : tuX c n (p + 2000 - tyk s) (tyd s) (tSk tSm c n (tSk tBk c n (p + 1))) = -1 := by
                    rw [tyB_9 (show (tKd c (tSk tBk c n (p + 1)) (tSk tSm c n (tSk tBk c n (p + 1)))) = 9 by omega), tkX_1] at h9
                    exact h9
                  have y2 := p86bhok hx
                  have eb := tuX_b hc hx
                  have em := tSm_s hc w55.1.1
                  have e9 : (tKd c (tSk tBk c n (p + 1)) (tSk tSm c n (tSk tBk c n (p + 1)))).toNat = 9 := by omega
                  rw [tyB_u (show (tKd c (tSk tBk c n (p + 1)) (tSk tSm c n (tSk tBk c n (p + 1)))) = 9 by omega) (tkX_1.trans hx), tkE_1]
                  refine ⟨zKO_U hs hcc (by omega) (by omega) (by omega) ((p86bbfr k 0 (by omega) (by omega) (by omega) (by omega) (by omega) (by omega) (by omega) (by omega)).trans w55.2.2.2.2.1) y2.2.2.1 ⟨(p86bbfr (k + 1) _ (by omega) (by omega) (by omega) (by omega) (by omega) (by omega) (by omega) (by omega)).trans (w55.2.2.2.2.2.1.trans (by omega)), (p86bbfr (k + 2) _ (by omega) (by omega) (by omega) (by omega) (by omega) (by omega) (by omega) (by omega)).trans (w55.2.2.2.2.2.2.1.trans hy), (p86bbfr (k + 3) _ (by omega) (by omega) (by omega) (by omega) (by omega) (by omega) (by omega) (by omega)).trans (by have z := w55.2.2.2.2.2.2.2.1; omega)⟩ y2.2.2.2.1
                    (fun w hw => (w55.2.2.2.2.2.2.2.2.2 w hw).trans (by rw [e9])) ⟨y2.2.2.2.2.1, y2.2.2.2.2.2.1⟩ ⟨(p86bbfr (k + 5) _ (by omega) (by omega) (by omega) (by omega) (by omega) (by omega) (by omega) (by omega)).trans (w55.2.2.2.2.2.2.2.2.1 1 (by decide)).1, (p86bbfr (k + 6) _ (by omega) (by omega) (by omega) (by omega) (by omega) (by omega) (by omega) (by omega)).trans (w55.2.2.2.2.2.2.2.2.1 1 (by decide)).2⟩ y2.2.2.2.2.2.2
                    (fun x j hx hj => (p86bbfr x j (by omega) (by omega) (by omega) (by omega) (by omega) (by omega) (by omega) (by omega)).trans ((p55bbfr x j (by omega) (by omega) (by omega) (by omega) (by omega) (by omega) (by omega) (by omega)).trans ((p45bfr x j (by omega)).trans (zxu (by omega) (zxu (by omega) rfl))))) (fun x j hx hj => (p86bbfr x j (by omega) (by omega) (by omega) (by omega) (by omega) (by omega) (by omega) (by omega)).trans ((p55bbfr x j (by omega) (by omega) (by omega) (by omega) (by omega) (by omega) (by omega) (by omega)).trans ((p45bfr x j (by omega)).trans (zxu (by omega) (zxu (by omega) rfl))))) (fun j hj => (p86bbfr (k + 7) j (by omega) (by omega) (by omega) (by omega) (by omega) (by omega) (by omega) (by omega)).trans ((p55bbfr (k + 7) j (by omega) (by omega) (by omega) (by omega) (by omega) (by omega) (by omega) (by omega)).trans ((p45bfr (k + 7) j (by omega)).trans (zxu (by omega) (zxu (by omega) rfl))))) (fun j hj => p55bbbfrL (k + 4) j (by omega)), y2.1, y2.2.1, (p86bbfr 61 5 (by omega) (by omega) (by omega) (by omega) (by omega) (by omega) (by omega) (by omega)).trans ((p55bbfr 61 5 (by omega) (by omega) (by omega) (by omega) (by omega) (by omega) (by omega) (by omega)).trans ((p45bfr 61 5 (by omega)).trans (zxs (by omega) (zxs (by omega) hxv)))), hy⟩)
               | (rw [tyG_t w55.1] at h9 ⊢
                  have hx : tVz c n 1 (tKd c (tSk tBk c n (p + 1)) (tSk tSm c n (tSk tBk c n (p + 1)))).toNat (tSk tSm c n (tSk tBk c n (p + 1))) (tFv (tKd c (tSk tBk c n (p + 1)) (tSk tSm c n (tSk tBk c n (p + 1)))).toNat (tyx s)) = -1 := by
                    rw [tyB_8 hc (tSm_s hc w55.1.1).2.1 (show (tKd c (tSk tBk c n (p + 1)) (tSk tSm c n (tSk tBk c n (p + 1)))) ≠ 9 by omega)] at h9
                    exact h9
                  have y2 := p94bhok hx
                  have em := tSm_s hc w55.1.1
                  rw [tyB_v (show (tKd c (tSk tBk c n (p + 1)) (tSk tSm c n (tSk tBk c n (p + 1)))) ≠ 9 by omega) hx (fun w => absurd w (by decide))]
                  refine ⟨zKO_O hs (a_ := (tKd c (tSk tBk c n (p + 1)) (tSk tSm c n (tSk tBk c n (p + 1)))).toNat) (by omega) (by omega) hcc ((p94bbfr k 0 (by omega) (by omega) (by omega) (by omega) (by omega) (by omega) (by omega)).trans w55.2.2.2.2.1) ((p94bbfr k 2 (by omega) (by omega) (by omega) (by omega) (by omega) (by omega) (by omega)).trans ((p55bbfr k 2 (by omega) (by omega) (by omega) (by omega) (by omega) (by omega) (by omega) (by omega)).trans ((p45bfr k 2 (by omega)).trans (zxu (by omega) (zxu (by omega) s2))))) ⟨(p94bbfr (k + 1) _ (by omega) (by omega) (by omega) (by omega) (by omega) (by omega) (by omega)).trans w55.2.2.2.2.2.1, (p94bbfr (k + 2) _ (by omega) (by omega) (by omega) (by omega) (by omega) (by omega) (by omega)).trans (w55.2.2.2.2.2.2.1.trans hy), (p94bbfr (k + 3) _ (by omega) (by omega) (by omega) (by omega) (by omega) (by omega) (by omega)).trans (by have z := w55.2.2.2.2.2.2.2.1; omega)⟩ ⟨y2.2.2.1, y2.2.2.2.1⟩ y2.2.2.2.2
                    (fun w h1 h2 => (p94bbbfrL (k + 4) _ (by omega)).trans (w55.2.2.2.2.2.2.2.2.2 w h2)) (fun w h1 h2 => ⟨(p94bbfr (k + 5) _ (by omega) (by omega) (by omega) (by omega) (by omega) (by omega) (by omega)).trans (w55.2.2.2.2.2.2.2.2.1 w h2).1, (p94bbfr (k + 6) _ (by omega) (by omega) (by omega) (by omega) (by omega) (by omega) (by omega)).trans (w55.2.2.2.2.2.2.2.2.1 w h2).2⟩)
                    (fun x j hx hj => (p94bbfr x j (by omega) (by omega) (by omega) (by omega) (by omega) (by omega) (by omega)).trans ((p55bbfr x j (by omega) (by omega) (by omega) (by omega) (by omega) (by omega) (by omega) (by omega)).trans ((p45bfr x j (by omega)).trans (zxu (by omega) (zxu (by omega) rfl))))) (fun x j hx hj => (p94bbfr x j (by omega) (by omega) (by omega) (by omega) (by omega) (by omega) (by omega)).trans ((p55bbfr x j (by omega) (by omega) (by omega) (by omega) (by omega) (by omega) (by omega) (by omega)).trans ((p45bfr x j (by omega)).trans (zxu (by omega) (zxu (by omega) rfl))))) (fun j hj => (p94bbfr (k + 7) j (by omega) (by omega) (by omega) (by omega) (by omega) (by omega) (by omega)).trans ((p55bbfr (k + 7) j (by omega) (by omega) (by omega) (by omega) (by omega) (by omega) (by omega) (by omega)).trans ((p45bfr (k + 7) j (by omega)).trans (zxu (by omega) (zxu (by omega) rfl))))) (fun j hj => (p94bbbfrL (k + 4) j (by omega)).trans (p55bbbfrL (k + 4) j (by omega))), y2.1, (p94bbfr 61 4 (by omega) (by omega) (by omega) (by omega) (by omega) (by omega) (by omega)).trans ((p55bbfr 61 4 (by omega) (by omega) (by omega) (by omega) (by omega) (by omega) (by omega) (by omega)).trans ((p45bfr 61 4 (by omega)).trans (zxs (by omega) zxe))), y2.2.1, w55.2.1.trans tyy_O.symm⟩))
    · refine And.intro ⟨(by omega), (zRb rfl)⟩ ⟨(fun h63 => False.elim (by omega)), fun h63 => ?_⟩
      refine hQ _ _ _ (pl55o : Int) ?_ ?_ (by omega) (fun c j h0 h1 h2 h3 h4 h5 h6 h7 h8 h9 h10 h11 h12 => ((p55bbfr c j h0 h1 h4 (fun w => h7 w.1) (fun w => h8 w.1) (fun w => h9 w.1) (fun w => h10 w.1) (fun w => h11 w.1)).trans ((p45bfr c j h0).trans (zxcj h0 (zxcj h2 rfl))))) (fun c j h0 => ((p55bbbfrL c j (fun w => h0 w.1)).trans rfl)) p55bbbbhpl9 (by omega)
      · first
        | (rw [show tyL c n s p = tyF s p from if_pos (by omega)]
           exact zxe)
        | (rw [show tyL c n s p = tyG c n 1 s (tSk tBk c n (p + 1)) p (tyd s) from if_neg (by omega)]
           first
           | (rw [tyG_n w55.1]
              exact w55.2.2)
           | (rw [tyG_t w55.1, tyB_9 (show (tKd c (tSk tBk c n (p + 1)) (tSk tSm c n (tSk tBk c n (p + 1)))) = 9 by omega), tkX_1]
              exact p86hf)
           | (rw [tyG_t w55.1, tyB_8 hc (tSm_s hc w55.1.1).2.1 (show (tKd c (tSk tBk c n (p + 1)) (tSk tSm c n (tSk tBk c n (p + 1)))) ≠ 9 by omega)]
              exact p94hf))
      · intro h9
        first
        | (exfalso
           rw [show tyL c n s p = tyF s p from if_pos (by omega)] at h9
           exact tyF_f h9)
        | (rw [show tyL c n s p = tyG c n 1 s (tSk tBk c n (p + 1)) p (tyd s) from if_neg (by omega)] at h9 ⊢
           first
           | (exfalso
              rw [tyG_n w55.1] at h9
              exact tyF_f h9)
           | (rw [tyG_t w55.1] at h9 ⊢
              have hx : tuX c n (p + 2000 - tyk s) (tyd s) (tSk tSm c n (tSk tBk c n (p + 1))) = -1 := by
                rw [tyB_9 (show (tKd c (tSk tBk c n (p + 1)) (tSk tSm c n (tSk tBk c n (p + 1)))) = 9 by omega), tkX_1] at h9
                exact h9
              have y2 := p86bhok hx
              have eb := tuX_b hc hx
              have em := tSm_s hc w55.1.1
              have e9 : (tKd c (tSk tBk c n (p + 1)) (tSk tSm c n (tSk tBk c n (p + 1)))).toNat = 9 := by omega
              rw [tyB_u (show (tKd c (tSk tBk c n (p + 1)) (tSk tSm c n (tSk tBk c n (p + 1)))) = 9 by omega) (tkX_1.trans hx), tkE_1]
              refine ⟨zKO_U hs hcc (by omega) (by omega) (by omega) ((p86bbfr k 0 (by omega) (by omega) (by omega) (by omega) (by omega) (by omega) (by omega) (by omega)).trans w55.2.2.2.2.1) y2.2.2.1 ⟨(p86bbfr (k + 1) _ (by omega) (by omega) (by omega) (by omega) (by omega) (by omega) (by omega) (by omega)).trans (w55.2.2.2.2.2.1.trans (by omega)), (p86bbfr (k + 2) _ (by omega) (by omega) (by omega) (by omega) (by omega) (by omega) (by omega) (by omega)).trans (w55.2.2.2.2.2.2.1.trans hy), (p86bbfr (k + 3) _ (by omega) (by omega) (by omega) (by omega) (by omega) (by omega) (by omega) (by omega)).trans (by have z := w55.2.2.2.2.2.2.2.1; omega)⟩ y2.2.2.2.1
                (fun w hw => (w55.2.2.2.2.2.2.2.2.2 w hw).trans (by rw [e9])) ⟨y2.2.2.2.2.1, y2.2.2.2.2.2.1⟩ ⟨(p86bbfr (k + 5) _ (by omega) (by omega) (by omega) (by omega) (by omega) (by omega) (by omega) (by omega)).trans (w55.2.2.2.2.2.2.2.2.1 1 (by decide)).1, (p86bbfr (k + 6) _ (by omega) (by omega) (by omega) (by omega) (by omega) (by omega) (by omega) (by omega)).trans (w55.2.2.2.2.2.2.2.2.1 1 (by decide)).2⟩ y2.2.2.2.2.2.2
                (fun x j hx hj => (p86bbfr x j (by omega) (by omega) (by omega) (by omega) (by omega) (by omega) (by omega) (by omega)).trans ((p55bbfr x j (by omega) (by omega) (by omega) (by omega) (by omega) (by omega) (by omega) (by omega)).trans ((p45bfr x j (by omega)).trans (zxu (by omega) (zxu (by omega) rfl))))) (fun x j hx hj => (p86bbfr x j (by omega) (by omega) (by omega) (by omega) (by omega) (by omega) (by omega) (by omega)).trans ((p55bbfr x j (by omega) (by omega) (by omega) (by omega) (by omega) (by omega) (by omega) (by omega)).trans ((p45bfr x j (by omega)).trans (zxu (by omega) (zxu (by omega) rfl))))) (fun j hj => (p86bbfr (k + 7) j (by omega) (by omega) (by omega) (by omega) (by omega) (by omega) (by omega) (by omega)).trans ((p55bbfr (k + 7) j (by omega) (by omega) (by omega) (by omega) (by omega) (by omega) (by omega) (by omega)).trans ((p45bfr (k + 7) j (by omega)).trans (zxu (by omega) (zxu (by omega) rfl))))) (fun j hj => p55bbbfrL (k + 4) j (by omega)), y2.1, y2.2.1, (p86bbfr 61 5 (by omega) (by omega) (by omega) (by omega) (by omega) (by omega) (by omega) (by omega)).trans ((p55bbfr 61 5 (by omega) (by omega) (by omega) (by omega) (by omega) (by omega) (by omega) (by omega)).trans ((p45bfr 61 5 (by omega)).trans (zxs (by omega) (zxs (by omega) hxv)))), hy⟩)
           | (rw [tyG_t w55.1] at h9 ⊢
              have hx : tVz c n 1 (tKd c (tSk tBk c n (p + 1)) (tSk tSm c n (tSk tBk c n (p + 1)))).toNat (tSk tSm c n (tSk tBk c n (p + 1))) (tFv (tKd c (tSk tBk c n (p + 1)) (tSk tSm c n (tSk tBk c n (p + 1)))).toNat (tyx s)) = -1 := by
                rw [tyB_8 hc (tSm_s hc w55.1.1).2.1 (show (tKd c (tSk tBk c n (p + 1)) (tSk tSm c n (tSk tBk c n (p + 1)))) ≠ 9 by omega)] at h9
                exact h9
              have y2 := p94bhok hx
              have em := tSm_s hc w55.1.1
              rw [tyB_v (show (tKd c (tSk tBk c n (p + 1)) (tSk tSm c n (tSk tBk c n (p + 1)))) ≠ 9 by omega) hx (fun w => absurd w (by decide))]
              refine ⟨zKO_O hs (a_ := (tKd c (tSk tBk c n (p + 1)) (tSk tSm c n (tSk tBk c n (p + 1)))).toNat) (by omega) (by omega) hcc ((p94bbfr k 0 (by omega) (by omega) (by omega) (by omega) (by omega) (by omega) (by omega)).trans w55.2.2.2.2.1) ((p94bbfr k 2 (by omega) (by omega) (by omega) (by omega) (by omega) (by omega) (by omega)).trans ((p55bbfr k 2 (by omega) (by omega) (by omega) (by omega) (by omega) (by omega) (by omega) (by omega)).trans ((p45bfr k 2 (by omega)).trans (zxu (by omega) (zxu (by omega) s2))))) ⟨(p94bbfr (k + 1) _ (by omega) (by omega) (by omega) (by omega) (by omega) (by omega) (by omega)).trans w55.2.2.2.2.2.1, (p94bbfr (k + 2) _ (by omega) (by omega) (by omega) (by omega) (by omega) (by omega) (by omega)).trans (w55.2.2.2.2.2.2.1.trans hy), (p94bbfr (k + 3) _ (by omega) (by omega) (by omega) (by omega) (by omega) (by omega) (by omega)).trans (by have z := w55.2.2.2.2.2.2.2.1; omega)⟩ ⟨y2.2.2.1, y2.2.2.2.1⟩ y2.2.2.2.2
                (fun w h1 h2 => (p94bbbfrL (k + 4) _ (by omega)).trans (w55.2.2.2.2.2.2.2.2.2 w h2)) (fun w h1 h2 => ⟨(p94bbfr (k + 5) _ (by omega) (by omega) (by omega) (by omega) (by omega) (by omega) (by omega)).trans (w55.2.2.2.2.2.2.2.2.1 w h2).1, (p94bbfr (k + 6) _ (by omega) (by omega) (by omega) (by omega) (by omega) (by omega) (by omega)).trans (w55.2.2.2.2.2.2.2.2.1 w h2).2⟩)
                (fun x j hx hj => (p94bbfr x j (by omega) (by omega) (by omega) (by omega) (by omega) (by omega) (by omega)).trans ((p55bbfr x j (by omega) (by omega) (by omega) (by omega) (by omega) (by omega) (by omega) (by omega)).trans ((p45bfr x j (by omega)).trans (zxu (by omega) (zxu (by omega) rfl))))) (fun x j hx hj => (p94bbfr x j (by omega) (by omega) (by omega) (by omega) (by omega) (by omega) (by omega)).trans ((p55bbfr x j (by omega) (by omega) (by omega) (by omega) (by omega) (by omega) (by omega) (by omega)).trans ((p45bfr x j (by omega)).trans (zxu (by omega) (zxu (by omega) rfl))))) (fun j hj => (p94bbfr (k + 7) j (by omega) (by omega) (by omega) (by omega) (by omega) (by omega) (by omega)).trans ((p55bbfr (k + 7) j (by omega) (by omega) (by omega) (by omega) (by omega) (by omega) (by omega) (by omega)).trans ((p45bfr (k + 7) j (by omega)).trans (zxu (by omega) (zxu (by omega) rfl))))) (fun j hj => (p94bbbfrL (k + 4) j (by omega)).trans (p55bbbfrL (k + 4) j (by omega))), y2.1, (p94bbfr 61 4 (by omega) (by omega) (by omega) (by omega) (by omega) (by omega) (by omega)).trans ((p55bbfr 61 4 (by omega) (by omega) (by omega) (by omega) (by omega) (by omega) (by omega) (by omega)).trans ((p45bfr 61 4 (by omega)).trans (zxs (by omega) zxe))), y2.2.1, w55.2.1.trans tyy_O.symm⟩))
  · refine And.intro (zA_61 hS) (zrd (v := p) hp ?_)
    refine And.intro (zA_61 hS) (Exists.intro _ (And.intro (zinl_ok (zT9_2 3)) (And.intro rfl ?_)))
    refine And.intro (zA_61 hS) (zrd (v := (-1)) hf0 ?_)
    refine And.intro ⟨(zRb rfl), (zRb rfl)⟩ (zbf rfl ?_)
    refine And.intro (zA_61 hS) ⟨_, (zWi (by omega)), ?_⟩
    refine hQ _ _ _ (p : Int) ?_ ?_ (by omega) (fun c j h0 h1 h2 h3 h4 h5 h6 h7 h8 h9 h10 h11 h12 => (zxcj h1 rfl)) (fun c j h0 => rfl) hp (by omega)
    · first
      | (rw [show tyL c n s p = tyF s p from if_pos (by omega)]
         exact zxe)
      | (rw [show tyL c n s p = tyG c n 1 s (tSk tBk c n (p + 1)) p (tyd s) from if_neg (by omega)]
         first
         | (rw [tyG_n w55.1]
            exact w55.2.2)
         | (rw [tyG_t w55.1, tyB_9 (show (tKd c (tSk tBk c n (p + 1)) (tSk tSm c n (tSk tBk c n (p + 1)))) = 9 by omega), tkX_1]
            exact p86hf)
         | (rw [tyG_t w55.1, tyB_8 hc (tSm_s hc w55.1.1).2.1 (show (tKd c (tSk tBk c n (p + 1)) (tSk tSm c n (tSk tBk c n (p + 1)))) ≠ 9 by omega)]
            exact p94hf))
    · intro h9
      first
      | (exfalso
         rw [show tyL c n s p = tyF s p from if_pos (by omega)] at h9
         exact tyF_f h9)
      | (rw [show tyL c n s p = tyG c n 1 s (tSk tBk c n (p + 1)) p (tyd s) from if_neg (by omega)] at h9 ⊢
         first
         | (exfalso
            rw [tyG_n w55.1] at h9
            exact tyF_f h9)
         | (rw [tyG_t w55.1] at h9 ⊢
            have hx : tuX c n (p + 2000 - tyk s) (tyd s) (tSk tSm c n (tSk tBk c n (p + 1))) = -1 := by
              rw [tyB_9 (show (tKd c (tSk tBk c n (p + 1)) (tSk tSm c n (tSk tBk c n (p + 1)))) = 9 by omega), tkX_1] at h9
              exact h9
            have y2 := p86bhok hx
            have eb := tuX_b hc hx
            have em := tSm_s hc w55.1.1
            have e9 : (tKd c (tSk tBk c n (p + 1)) (tSk tSm c n (tSk tBk c n (p + 1)))).toNat = 9 := by omega
            rw [tyB_u (show (tKd c (tSk tBk c n (p + 1)) (tSk tSm c n (tSk tBk c n (p + 1)))) = 9 by omega) (tkX_1.trans hx), tkE_1]
            refine ⟨zKO_U hs hcc (by omega) (by omega) (by omega) ((p86bbfr k 0 (by omega) (by omega) (by omega) (by omega) (by omega) (by omega) (by omega) (by omega)).trans w55.2.2.2.2.1) y2.2.2.1 ⟨(p86bbfr (k + 1) _ (by omega) (by omega) (by omega) (by omega) (by omega) (by omega) (by omega) (by omega)).trans (w55.2.2.2.2.2.1.trans (by omega)), (p86bbfr (k + 2) _ (by omega) (by omega) (by omega) (by omega) (by omega) (by omega) (by omega) (by omega)).trans (w55.2.2.2.2.2.2.1.trans hy), (p86bbfr (k + 3) _ (by omega) (by omega) (by omega) (by omega) (by omega) (by omega) (by omega) (by omega)).trans (by have z := w55.2.2.2.2.2.2.2.1; omega)⟩ y2.2.2.2.1
              (fun w hw => (w55.2.2.2.2.2.2.2.2.2 w hw).trans (by rw [e9])) ⟨y2.2.2.2.2.1, y2.2.2.2.2.2.1⟩ ⟨(p86bbfr (k + 5) _ (by omega) (by omega) (by omega) (by omega) (by omega) (by omega) (by omega) (by omega)).trans (w55.2.2.2.2.2.2.2.2.1 1 (by decide)).1, (p86bbfr (k + 6) _ (by omega) (by omega) (by omega) (by omega) (by omega) (by omega) (by omega) (by omega)).trans (w55.2.2.2.2.2.2.2.2.1 1 (by decide)).2⟩ y2.2.2.2.2.2.2
              (fun x j hx hj => (p86bbfr x j (by omega) (by omega) (by omega) (by omega) (by omega) (by omega) (by omega) (by omega)).trans ((p55bbfr x j (by omega) (by omega) (by omega) (by omega) (by omega) (by omega) (by omega) (by omega)).trans ((p45bfr x j (by omega)).trans (zxu (by omega) (zxu (by omega) rfl))))) (fun x j hx hj => (p86bbfr x j (by omega) (by omega) (by omega) (by omega) (by omega) (by omega) (by omega) (by omega)).trans ((p55bbfr x j (by omega) (by omega) (by omega) (by omega) (by omega) (by omega) (by omega) (by omega)).trans ((p45bfr x j (by omega)).trans (zxu (by omega) (zxu (by omega) rfl))))) (fun j hj => (p86bbfr (k + 7) j (by omega) (by omega) (by omega) (by omega) (by omega) (by omega) (by omega) (by omega)).trans ((p55bbfr (k + 7) j (by omega) (by omega) (by omega) (by omega) (by omega) (by omega) (by omega) (by omega)).trans ((p45bfr (k + 7) j (by omega)).trans (zxu (by omega) (zxu (by omega) rfl))))) (fun j hj => p55bbbfrL (k + 4) j (by omega)), y2.1, y2.2.1, (p86bbfr 61 5 (by omega) (by omega) (by omega) (by omega) (by omega) (by omega) (by omega) (by omega)).trans ((p55bbfr 61 5 (by omega) (by omega) (by omega) (by omega) (by omega) (by omega) (by omega) (by omega)).trans ((p45bfr 61 5 (by omega)).trans (zxs (by omega) (zxs (by omega) hxv)))), hy⟩)
         | (rw [tyG_t w55.1] at h9 ⊢
            have hx : tVz c n 1 (tKd c (tSk tBk c n (p + 1)) (tSk tSm c n (tSk tBk c n (p + 1)))).toNat (tSk tSm c n (tSk tBk c n (p + 1))) (tFv (tKd c (tSk tBk c n (p + 1)) (tSk tSm c n (tSk tBk c n (p + 1)))).toNat (tyx s)) = -1 := by
              rw [tyB_8 hc (tSm_s hc w55.1.1).2.1 (show (tKd c (tSk tBk c n (p + 1)) (tSk tSm c n (tSk tBk c n (p + 1)))) ≠ 9 by omega)] at h9
              exact h9
            have y2 := p94bhok hx
            have em := tSm_s hc w55.1.1
            rw [tyB_v (show (tKd c (tSk tBk c n (p + 1)) (tSk tSm c n (tSk tBk c n (p + 1)))) ≠ 9 by omega) hx (fun w => absurd w (by decide))]
            refine ⟨zKO_O hs (a_ := (tKd c (tSk tBk c n (p + 1)) (tSk tSm c n (tSk tBk c n (p + 1)))).toNat) (by omega) (by omega) hcc ((p94bbfr k 0 (by omega) (by omega) (by omega) (by omega) (by omega) (by omega) (by omega)).trans w55.2.2.2.2.1) ((p94bbfr k 2 (by omega) (by omega) (by omega) (by omega) (by omega) (by omega) (by omega)).trans ((p55bbfr k 2 (by omega) (by omega) (by omega) (by omega) (by omega) (by omega) (by omega) (by omega)).trans ((p45bfr k 2 (by omega)).trans (zxu (by omega) (zxu (by omega) s2))))) ⟨(p94bbfr (k + 1) _ (by omega) (by omega) (by omega) (by omega) (by omega) (by omega) (by omega)).trans w55.2.2.2.2.2.1, (p94bbfr (k + 2) _ (by omega) (by omega) (by omega) (by omega) (by omega) (by omega) (by omega)).trans (w55.2.2.2.2.2.2.1.trans hy), (p94bbfr (k + 3) _ (by omega) (by omega) (by omega) (by omega) (by omega) (by omega) (by omega)).trans (by have z := w55.2.2.2.2.2.2.2.1; omega)⟩ ⟨y2.2.2.1, y2.2.2.2.1⟩ y2.2.2.2.2
              (fun w h1 h2 => (p94bbbfrL (k + 4) _ (by omega)).trans (w55.2.2.2.2.2.2.2.2.2 w h2)) (fun w h1 h2 => ⟨(p94bbfr (k + 5) _ (by omega) (by omega) (by omega) (by omega) (by omega) (by omega) (by omega)).trans (w55.2.2.2.2.2.2.2.2.1 w h2).1, (p94bbfr (k + 6) _ (by omega) (by omega) (by omega) (by omega) (by omega) (by omega) (by omega)).trans (w55.2.2.2.2.2.2.2.2.1 w h2).2⟩)
              (fun x j hx hj => (p94bbfr x j (by omega) (by omega) (by omega) (by omega) (by omega) (by omega) (by omega)).trans ((p55bbfr x j (by omega) (by omega) (by omega) (by omega) (by omega) (by omega) (by omega) (by omega)).trans ((p45bfr x j (by omega)).trans (zxu (by omega) (zxu (by omega) rfl))))) (fun x j hx hj => (p94bbfr x j (by omega) (by omega) (by omega) (by omega) (by omega) (by omega) (by omega)).trans ((p55bbfr x j (by omega) (by omega) (by omega) (by omega) (by omega) (by omega) (by omega) (by omega)).trans ((p45bfr x j (by omega)).trans (zxu (by omega) (zxu (by omega) rfl))))) (fun j hj => (p94bbfr (k + 7) j (by omega) (by omega) (by omega) (by omega) (by omega) (by omega) (by omega)).trans ((p55bbfr (k + 7) j (by omega) (by omega) (by omega) (by omega) (by omega) (by omega) (by omega) (by omega)).trans ((p45bfr (k + 7) j (by omega)).trans (zxu (by omega) (zxu (by omega) rfl))))) (fun j hj => (p94bbbfrL (k + 4) j (by omega)).trans (p55bbbfrL (k + 4) j (by omega))), y2.1, (p94bbfr 61 4 (by omega) (by omega) (by omega) (by omega) (by omega) (by omega) (by omega)).trans ((p55bbfr 61 4 (by omega) (by omega) (by omega) (by omega) (by omega) (by omega) (by omega) (by omega)).trans ((p45bfr 61 4 (by omega)).trans (zxs (by omega) zxe))), y2.2.1, w55.2.1.trans tyy_O.symm⟩)))
