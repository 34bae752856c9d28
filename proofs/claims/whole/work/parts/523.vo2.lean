/-! vo2 -/
def T_V_opn : ZT := fun args I L R S Q => ∃ (k : Nat) (c : Nat → Int) (n : Nat) (s : TyS) (mk : Int) (p : Int) (p_ : Nat) (d : Int), args = [zvr k, zvi p, zvi d] ∧ (zDy zT20 zF20 k R S) ∧ (zRM k c n I) ∧ (tOk c n) ∧ (p = p_ ∧ p_ ≤ n) ∧ (c p_ = 40) ∧ (d = tyd s) ∧ (zVO k c n 1 mk s I L) ∧ (tyg c n 1 s) ∧ (typ s ≤ p_) ∧ (tyd s = 0 → tyn s = 0) ∧ (I k 29 = tyd s) ∧ (I k 15 = mk) ∧ (0 ≤ mk ∧ mk ≤ 1) ∧ (I k 18 = -1) ∧ ∀ (v : Int) (I' : ZI) (L' : ZI), (I' k 18 = tyf (tyL c n s p_)) → (tyf (tyL c n s p_) = -1 → zVO k c n 1 mk (tyL c n s p_) I' L' ∧ v = typ (tyL c n s p_) ∧ I' k 29 = tyd (tyL c n s p_)) → (0 ≤ v ∧ v ≤ 5200) → (∀ c j : Nat, ¬ (c = k ∧ j = 16) → ¬ (c = k ∧ j = 17) → ¬ (c = k ∧ j = 18) → ¬ (c = k ∧ j = 20) → ¬ (c = k ∧ j = 21) → ¬ (c = k ∧ j = 22) → ¬ (c = k ∧ j = 29) → ¬ (c = k + 2 ∧ mk = 1) → ¬ (c = k + 3 ∧ mk = 1) → ¬ (c = k + 5 ∧ mk = 1) → ¬ (c = k + 6 ∧ mk = 1) → ¬ (c = k + 7 ∧ mk = 1) → ¬ (c = k + 8 ∧ mk = 1) → ¬ (c = k + 9 ∧ mk = 1) → ¬ c = k + 10 → ¬ c = k + 11 → I' c j = I c j) → (∀ c j : Nat, ¬ (c = k ∧ j = 28) → ¬ (c = k + 4 ∧ mk = 1) → L' c j = L c j) → Q (some (zvi (v))) I' L' R S
theorem sn_V_opn : ZSnd 6 20 28 T_V_opn := ZSnd.of (zT20_28 5) (by
  rintro args I L R S Q hz ⟨k, c, n, s, mk, p, p_, d, rfl, hD, hX, hc, hp, hcp, hd, hs, hg, htp, hne, hdn, hmk, hmk2, hf0, hQ⟩
  obtain ⟨x1, x2⟩ := id hX
  have hn4 := hc.1
  have hk40 := hD.1
  obtain ⟨⟨s17, s22, s16⟩, sst, srow⟩ := id hs
  obtain ⟨⟨b1, b2, b3, b4, b5, b6, b7, b8, b9⟩, bst, brow⟩ := id hg
  have b6_ := b6 rfl
  have pn : p_ < n := by rcases Nat.lt_or_ge p_ n with z | z; exact z; (have z2 := hc.2.2 p_ z; omega)
  have yz := tyz_b hg (Nat.le_refl (tyd s))
  have hnm := tSk_b (P := tBk) (p := p_ + 1) hc tBk_no
  have hkb := tKd_b (c := c) (p := (tSk tBk c n (p_ + 1))) (q := (tSk tSm c n (tSk tBk c n (p_ + 1))))
  have tzp := fun h => tyy_p (s := s) (d := tyd s) h
  have yzb : -1 ≤ tyy s (tyd s) ∧ tyy s (tyd s) ≤ 199 ∧ -1 ≤ tyz s (tyd s) ∧ tyz s (tyd s) ≤ 8 := by rcases yz with z | z <;> omega
  have yz0 : tyd s = 0 → tyz s (tyd s) = -1 ∧ tyy s (tyd s) = -1 := fun h => by rcases yz with z | z; exact ⟨z.2.2, z.2.1⟩; (exfalso; omega)
  have hd0 : tyd s = 0 ↔ tyn s = 0 := ⟨hne, fun w => by omega⟩
  have hme := tSm_e (p := (tSk tBk c n (p_ + 1))) hc
  have hn0_ : tBg c n (tSk tBk c n (p_ + 1)) (tyz s (tyd s)) (tyn s) → (tKd c (tSk tBk c n (p_ + 1)) (tSk tSm c n (tSk tBk c n (p_ + 1)))) ≠ 0 → tyn s ≠ 0 := fun w h e => by have z := (yz0 (by omega)).1; have w2 := w.2.1; rw [z] at w2; exact h (tCn_n.mp w2)
  refine And.intro rfl ?_
  refine And.intro ⟨(by omega), (zRb rfl)⟩ ⟨fun h3 => ?_, fun h3 => ?_⟩
  · refine And.intro (zDX hD 0 rfl) ⟨_, sn_V_bl2.up (by decide), ?_⟩
    refine ⟨_, _, _, ((p + 1) : Int), (p_ + 1), rfl, hD, (by first | exact (zRM_fr hX (fun c j h => rfl)) | (clear hQ; grind [xu])), (by first | exact hc | (clear hQ; grind [xu])), (by omega), ?_⟩
    intro v15o p15hv
    refine And.intro (zDX hD 0 rfl) (zrd (v := (-1)) hf0 ?_)
    refine And.intro ⟨(zRb rfl), (zRb rfl)⟩ (zbt rfl ?_)
    refine And.intro (by omega) ⟨fun h34 => ?_, fun h34 => ?_⟩
    · refine And.intro (zDX hD 0 rfl) (zrdR (v := some (k + 11)) (zDR hD 10 rfl) ?_)
      refine And.intro (zDP hD 11 rfl rfl (by omega) (by omega)) (fun v48 e48 r48 => ?_)
      have f48 : v48 = tyr s (tyo s (tyd s - 1)) 0 := (e48.trans ((congrArg (I (k + 11)) (by omega)).trans (sst (tyd s - 1) (by omega)).2))
      refine And.intro (by omega) ⟨fun h50 => ?_, (fun h50 => False.elim (by omega))⟩
      refine And.intro (zDX hD 0 rfl) (zrdR (v := some (k + 10)) (zDR hD 9 rfl) ?_)
      refine And.intro (zDP hD 10 rfl rfl (by omega) (by omega)) (fun v64 e64 r64 => ?_)
      have f64 : v64 = tyo s (tyd s - 1) := (e64.trans ((congrArg (I (k + 10)) (by omega)).trans (sst (tyd s - 1) (by omega)).1))
      refine And.intro (zDX hD 0 rfl) ⟨_, sn_V_beg.up (by decide), ?_⟩
      refine ⟨_, _, _, (v15o : Int), (tSk tBk c n (p_ + 1)), (v48 : Int), (v64 : Int), mk, (tyn s), rfl, hD, (by first | exact (zRM_fr hX (fun c j h => rfl)) | (clear hQ; grind [xu])), (by first | exact hc | (clear hQ; grind [xu])), (by omega), (by omega), (by omega), hmk, (by omega), s17, (by omega), (Eq.trans (b := ((-1) : Int)) hf0 (by omega)), ?_⟩
      intro v65o I65o L65o p65hg p65bhv p65bbhst p65bbbfr p65bbbbfrL
      have g65 : (tBg c n (tSk tBk c n (p_ + 1)) (tyz s (tyd s)) (tyn s) ∧ v65o = (tKd c (tSk tBk c n (p_ + 1)) (tSk tSm c n (tSk tBk c n (p_ + 1)))) ∧ I65o k 18 = -1 ∧ I65o k 20 = 0 ∧ I65o k 21 = 0) ∨ (¬ tBg c n (tSk tBk c n (p_ + 1)) (tyz s (tyd s)) (tyn s) ∧ v65o = -1 ∧ I65o k 18 = (tSk tBk c n (p_ + 1))) := (by first | (rw [show tyz s (tyd s) = v48 by have z := tzp (by omega); omega]; exact p65hg) | (rw [(yz0 (by omega)).1]; exact p65hg))
      have g65b : 0 ≤ v65o → mk = 1 → I65o (k + 3) (tyn s) = tyy s (tyd s) := (fun e1 e2 => by have z := (p65bbhst e1 e2).2.1; first | (rw [show tyy s (tyd s) = v64 by have z := tzp (by omega); omega]; exact z) | (rw [(yz0 (by omega)).2]; exact z))
      rcases g65 with w65 | w65
      · refine And.intro ⟨(by omega), (zRb rfl)⟩ ⟨fun h73 => ?_, fun h73 => ?_⟩
        · have t73 : tyn s ≤ 199 ∧ (tSk tSm c n (tSk tBk c n (p_ + 1))) ≤ n ∧ (tSk tBk c n (p_ + 1)) < (tSk tSm c n (tSk tBk c n (p_ + 1))) := (by have z := tSm_s hc w65.1.1; have z2 := w65.1.2.2; exact ⟨by omega, z.2.1, z.1⟩)
          refine And.intro (zDX hD 0 rfl) ⟨_, sn_V_nme.up (by decide), ?_⟩
          refine ⟨_, _, _, (v15o : Int), (tSk tBk c n (p_ + 1)), rfl, hD, (by first | exact (zRM_fr hX (fun c j h => ((p65bbbfr c j (by omega) (by omega) (by omega) (by omega) (by omega) (by omega) (by omega)).trans rfl))) | (clear hQ; grind [xu])), (by first | exact hc | (clear hQ; grind [xu])), (by omega), ?_⟩
          intro v80o p80hv
          refine And.intro ⟨(by omega), (zRb rfl)⟩ ⟨fun h89 => ?_, fun h89 => ?_⟩
          · refine And.intro (by omega) ⟨fun h143 => ?_, fun h143 => ?_⟩
            · refine And.intro (zDX hD 0 rfl) ⟨_, sn_V_vals2.up (by decide), ?_⟩
              refine ⟨_, _, _, (v65o : Int), ((tKd c (tSk tBk c n (p_ + 1)) (tSk tSm c n (tSk tBk c n (p_ + 1)))).toNat), (v80o : Int), (tSk tSm c n (tSk tBk c n (p_ + 1))), (1 : Int), 1, mk, (tyn s), (tyx s), rfl, hD, (by first | exact (zRM_fr hX (fun c j h => ((p65bbbfr c j (by omega) (by omega) (by omega) (by omega) (by omega) (by omega) (by omega)).trans rfl))) | (clear hQ; grind [xu])), (by first | exact hc | (clear hQ; grind [xu])), (by omega), ⟨by omega, (tSm_s hc w65.1.1).2.1⟩, (by omega), ((p65bbbfr k 16 (by omega) (by omega) (by omega) (by omega) (by omega) (by omega) (by omega)).trans (s16 (hn0_ w65.1 (by omega)))), (by omega), ((p65bbbfr k 15 (by omega) (by omega) (by omega) (by omega) (by omega) (by omega) (by omega)).trans hmk), (by omega), ((p65bbbfr k 17 (by omega) (by omega) (by omega) (by omega) (by omega) (by omega) (by omega)).trans s17), (by omega), w65.2.2.2.2, w65.2.2.2.1, (Eq.trans (b := ((-1) : Int)) w65.2.2.1 (by omega)), ?_⟩
              intro v162o I162o L162o p162hf p162bhok p162bbfr p162bbbfrL p162bbbbhvb9
              refine And.intro (zDX hD 0 rfl) (zrdR (v := some (k + 10)) (zDR hD 9 rfl) ?_)
              refine And.intro (zDX hD 0 rfl) (zrd (v := (tyn s)) ((p162bbfr k 17 (by omega) (by omega) (by omega) (by omega) (by omega)).trans ((p65bbbfr k 17 (by omega) (by omega) (by omega) (by omega) (by omega) (by omega) (by omega)).trans s17)) ?_)
              refine And.intro ⟨(by show 40 ≤ _; omega), (zDP hD 10 rfl rfl (by omega) (by omega))⟩ ⟨_, (zWi (by omega)), ?_⟩
              refine And.intro (zDX hD 0 rfl) (zrdR (v := some (k + 11)) (zDR hD 10 rfl) ?_)
              refine And.intro ⟨(by show 40 ≤ _; omega), (zDP hD 11 rfl rfl (by omega) (by omega))⟩ ⟨_, (zWi (by omega)), ?_⟩
              refine And.intro (zDX hD 0 rfl) (zrd (v := (tyn s)) (zxu (by omega) (zxu (by omega) ((p162bbfr k 17 (by omega) (by omega) (by omega) (by omega) (by omega)).trans ((p65bbbfr k 17 (by omega) (by omega) (by omega) (by omega) (by omega) (by omega) (by omega)).trans s17)))) ?_)
              refine And.intro (zDX hD 0 rfl) ⟨_, (zWi (by omega)), ?_⟩
              refine And.intro (zDX hD 0 rfl) ⟨_, (zWi (by omega)), ?_⟩
              refine hQ _ _ _ ?_ ?_ (by omega) (fun c j h0 h1 h2 h3 h4 h5 h6 h7 h8 h9 h10 h11 h12 h13 h14 h15 => (zxcj h6 (zxcj h1 (zxu h15 (zxu h14 ((p162bbfr c j h2 h3 h4 (fun w => h9 ⟨w.1, w.2.1⟩) (fun w => h10 ⟨w.1, w.2.1⟩)).trans ((p65bbbfr c j h2 h3 h4 (fun w => h7 ⟨w.1, w.2.1⟩) (fun w => h8 ⟨w.1, w.2.1⟩) (fun w => h12 ⟨w.1, w.2.1⟩) (fun w => h9 ⟨w.1, w.2.1⟩)).trans rfl))))))) (fun c j h0 h1 => ((p162bbbfrL c j h0 (fun w => h1 ⟨w.1, w.2.1⟩)).trans ((p65bbbbfrL c j (fun w => h1 ⟨w.1, w.2.1⟩)).trans rfl)))
              · first
                | (rw [show tyL c n s p_ = tyF s p_ from if_pos (by omega)]
                   exact zxe.trans (show _ = ((p_ : Nat) : Int) by omega))
                | (rw [show tyL c n s p_ = tyG c n 1 s (tSk tBk c n (p_ + 1)) p_ (tyd s) from if_neg (by omega)]
                   first
                   | (rw [tyG_n w65.1]
                      exact w65.2.2)
                   | (rw [tyG_t w65.1, tyB_9 (show (tKd c (tSk tBk c n (p_ + 1)) (tSk tSm c n (tSk tBk c n (p_ + 1)))) = 9 by omega), tkX_1]
                      exact zxs (by omega) p123hf)
                   | (rw [tyG_t w65.1, tyB_8 hc (tSm_s hc w65.1.1).2.1 (show (tKd c (tSk tBk c n (p_ + 1)) (tSk tSm c n (tSk tBk c n (p_ + 1)))) ≠ 9 by omega)]
                      exact zxs (by omega) (zxs (by omega) (zxu (by omega) (zxu (by omega) p162hf))))
                   | (rw [tyG_t w65.1, tyB_8 hc (tSm_s hc w65.1.1).2.1 (show (tKd c (tSk tBk c n (p_ + 1)) (tSk tSm c n (tSk tBk c n (p_ + 1)))) ≠ 9 by omega)]
                      have e0 : ((tKd c (tSk tBk c n (p_ + 1)) (tSk tSm c n (tSk tBk c n (p_ + 1)))).toNat) = 0 := by omega
                      rw [e0, tFv_00]
                      rcases p150hg with w | w
                      · rw [tVz_v.1 w.1]
                        exact zxs (by omega) (zxs (by omega) (zxu (by omega) (zxu (by omega) w.2)))
                      · rw [tVz_v.2.1 w.1]
                        exact zxs (by omega) (zxs (by omega) (zxu (by omega) (zxu (by omega) w.2.1)))))
                | (exfalso; omega)
              · intro h9
                first
                | (exfalso
                   rw [show tyL c n s p_ = tyF s p_ from if_pos (by omega)] at h9
                   exact tyF_f h9)
                | (rw [show tyL c n s p_ = tyG c n 1 s (tSk tBk c n (p_ + 1)) p_ (tyd s) from if_neg (by omega)] at h9 ⊢
                   first
                   | (exfalso
                      rw [tyG_n w65.1] at h9
                      exact tyF_f h9)
                   | (rw [tyG_t w65.1] at h9 ⊢
                      have em := tSm_s hc w65.1.1
                      first
                      | (have hx : tuX c n (p_ + 2000 - tyk s) (tyd s) (tSk tSm c n (tSk tBk c n (p_ + 1))) = -1 := by
                           rw [tyB_9 (show (tKd c (tSk tBk c n (p_ + 1)) (tSk tSm c n (tSk tBk c n (p_ + 1)))) = 9 by omega), tkX_1] at h9
                           exact h9
                         have y2 := p123bhok hx
                         have eb := tuX_b hc hx
                         have e9 : v65o.toNat = 9 := by omega
                         rw [tyB_u (show (tKd c (tSk tBk c n (p_ + 1)) (tSk tSm c n (tSk tBk c n (p_ + 1)))) = 9 by omega) (tkX_1.trans hx), tkE_1]
                         refine ⟨?_, y2.1, zxs (by omega) ((p123bbbfr k 29 (by omega) (by omega) (by omega) (by omega)).trans ((p116bfr k 29 (by omega) (by omega) (by omega) (by omega)).trans (by first | exact zxu (by omega) ((p65bbbfr k 29 (by omega) (by omega) (by omega) (by omega) (by omega) (by omega) (by omega)).trans hdn) | exact (p65bbbfr k 29 (by omega) (by omega) (by omega) (by omega) (by omega) (by omega) (by omega)).trans hdn)))⟩
                         first
                         | exact zVO_U hs hg (by omega) (hn0_ w65.1 (by omega)) zxe (zVK_fr y2.2 (fun x j h => zxcj (by omega) rfl)) (zxs (by omega) ((p123bbbfr k 16 (by omega) (by omega) (by omega) (by omega)).trans ((p116bfr k 16 (by omega) (by omega) (by omega) (by omega)).trans (zxu (by omega) (p65bbbfr k 16 (by omega) (by omega) (by omega) (by omega) (by omega) (by omega) (by omega)))))) (fun e => ⟨zxu (by omega) ((p123bbbfr (k + 10) e (by omega) (by omega) (by omega) (by omega)).trans ((p116bfr (k + 10) e (by omega) (by omega) (by omega) (by omega)).trans (zxu (by omega) (p65bbbfr (k + 10) e (by omega) (by omega) (by omega) (by omega) (by omega) (by omega) (by omega))))), zxu (by omega) ((p123bbbfr (k + 11) e (by omega) (by omega) (by omega) (by omega)).trans ((p116bfr (k + 11) e (by omega) (by omega) (by omega) (by omega)).trans (zxu (by omega) (p65bbbfr (k + 11) e (by omega) (by omega) (by omega) (by omega) (by omega) (by omega) (by omega)))))⟩)
                             (fun w => ⟨zxu (by omega) ((p123bbbfr (k + 2) _ (by omega) (by omega) (by omega) (by omega)).trans ((p116bfr (k + 2) _ (by omega) (by omega) (by omega) (by omega)).trans (zxu (by omega) ((p65bbhst (by omega) w).1.trans (by omega))))), zxu (by omega) ((p123bbbfr (k + 3) _ (by omega) (by omega) (by omega) (by omega)).trans ((p116bfr (k + 3) _ (by omega) (by omega) (by omega) (by omega)).trans (zxu (by omega) (g65b (by omega) w))))⟩)
                             (fun w => zxu (by omega) ((p123bbbfr (k + 7) _ (by omega) (by omega) (by omega) (by omega)).trans ((p116bfr (k + 7) _ (by omega) (by omega) (by omega) (by omega)).trans (zxe' (by omega))))) (fun w i hi => ((p65bbhst (by omega) w).2.2.2.2 i hi).trans (by rw [e9]))
                             (fun w x j hx hj => zxu (by omega) ((p123bbbfr x j (by omega) (by omega) (by omega) (by omega)).trans ((p116bfr x j (by omega) (by omega) (by omega) (by omega)).trans (zxcj (by omega) (p65bbbfr x j (by omega) (by omega) (by omega) (by omega) (by omega) (by omega) (by omega)))))) (fun w j hj => zxu (by omega) ((p123bbbfr (k + 5) j (by omega) (by omega) (by omega) (by omega)).trans ((p116bfr (k + 5) j (by omega) (by omega) (by omega) (by omega)).trans (zxu (by omega) (p65bbbfr (k + 5) j (by omega) (by omega) (by omega) (by omega) (by omega) (by omega) (by omega)))))) (fun w j hj => zxu (by omega) ((p123bbbfr (k + 6) j (by omega) (by omega) (by omega) (by omega)).trans ((p116bfr (k + 6) j (by omega) (by omega) (by omega) (by omega)).trans (zxu (by omega) (p65bbbfr (k + 6) j (by omega) (by omega) (by omega) (by omega) (by omega) (by omega) (by omega)))))) (fun w j hj => zxu (by omega) ((p123bbbfr (k + 9) j (by omega) (by omega) (by omega) (by omega)).trans ((p116bfr (k + 9) j (by omega) (by omega) (by omega) (by omega)).trans (zxu (by omega) (p65bbbfr (k + 9) j (by omega) (by omega) (by omega) (by omega) (by omega) (by omega) (by omega)))))) (fun w j hj => p65bbbbfrL (k + 4) j (by omega))
                         | exact zVO_U hs hg (by omega) (hn0_ w65.1 (by omega)) zxe (zVK_fr y2.2 (fun x j h => zxcj (by omega) rfl)) (zxs (by omega) ((p123bbbfr k 16 (by omega) (by omega) (by omega) (by omega)).trans ((p116bfr k 16 (by omega) (by omega) (by omega) (by omega)).trans (p65bbbfr k 16 (by omega) (by omega) (by omega) (by omega) (by omega) (by omega) (by omega))))) (fun e => ⟨zxu (by omega) ((p123bbbfr (k + 10) e (by omega) (by omega) (by omega) (by omega)).trans ((p116bfr (k + 10) e (by omega) (by omega) (by omega) (by omega)).trans (p65bbbfr (k + 10) e (by omega) (by omega) (by omega) (by omega) (by omega) (by omega) (by omega)))), zxu (by omega) ((p123bbbfr (k + 11) e (by omega) (by omega) (by omega) (by omega)).trans ((p116bfr (k + 11) e (by omega) (by omega) (by omega) (by omega)).trans (p65bbbfr (k + 11) e (by omega) (by omega) (by omega) (by omega) (by omega) (by omega) (by omega))))⟩)
                             (fun w => by exfalso; omega) (fun w => by exfalso; omega) (fun w => by exfalso; omega) (fun w => by exfalso; omega) (fun w => by exfalso; omega) (fun w => by exfalso; omega) (fun w => by exfalso; omega) (fun w => by exfalso; omega))
                      | (have hx : tVz c n 1 (tKd c (tSk tBk c n (p_ + 1)) (tSk tSm c n (tSk tBk c n (p_ + 1)))).toNat (tSk tSm c n (tSk tBk c n (p_ + 1))) (tFv (tKd c (tSk tBk c n (p_ + 1)) (tSk tSm c n (tSk tBk c n (p_ + 1)))).toNat (tyx s)) = -1 := by
                           rw [tyB_8 hc em.2.1 (show (tKd c (tSk tBk c n (p_ + 1)) (tSk tSm c n (tSk tBk c n (p_ + 1)))) ≠ 9 by omega)] at h9
                           exact h9
                         have y2 := p162bhok hx
                         rw [tyB_v (show (tKd c (tSk tBk c n (p_ + 1)) (tSk tSm c n (tSk tBk c n (p_ + 1)))) ≠ 9 by omega) hx (fun w => absurd w (by decide))]
                         exact ⟨zVO_O (I1 := I162o) (L1 := L162o) hs hg (a_ := ((tKd c (tSk tBk c n (p_ + 1)) (tSk tSm c n (tSk tBk c n (p_ + 1)))).toNat)) (by omega) (by omega) (Nat.le_refl _) (zxs (by omega) zxe) (zxs (by omega) (zxs (by omega) (zxu (by omega) (zxu (by omega) ((p162bbfr k 22 (by omega) (by omega) (by omega) (by omega) (by omega)).trans ((p65bbbfr k 22 (by omega) (by omega) (by omega) (by omega) (by omega) (by omega) (by omega)).trans s22)))))) ((zxs (by omega) (zxs (by omega) (zxu (by omega) (zxu (by omega) ((p162bbfr k 16 (by omega) (by omega) (by omega) (by omega) (by omega)).trans ((p65bbbfr k 16 (by omega) (by omega) (by omega) (by omega) (by omega) (by omega) (by omega)).trans (s16 (hn0_ w65.1 (by omega))))))))).trans (tXx_f (by omega)).symm)
                             ⟨zxu (by omega) (zxu (by omega) (zxu (by omega) (zxe' (by omega)))), zxu (by omega) (zxu (by omega) ((zxe' (by omega)).trans (by omega)))⟩ (fun e he => ⟨zxu (by omega) (zxu (by omega) (zxu (by omega) (zxs (by omega) ((p162bbfr (k + 10) e (by omega) (by omega) (by omega) (by omega) (by omega)).trans (p65bbbfr (k + 10) e (by omega) (by omega) (by omega) (by omega) (by omega) (by omega) (by omega)))))), zxu (by omega) (zxu (by omega) (zxs (by omega) (zxu (by omega) ((p162bbfr (k + 11) e (by omega) (by omega) (by omega) (by omega) (by omega)).trans (p65bbbfr (k + 11) e (by omega) (by omega) (by omega) (by omega) (by omega) (by omega) (by omega))))))⟩)
                             (fun w => ⟨(p162bbfr (k + 2) _ (by omega) (by omega) (by omega) (by omega) (by omega)).trans ((p65bbhst (by omega) w).1.trans w65.2.1), (p162bbfr (k + 3) _ (by omega) (by omega) (by omega) (by omega) (by omega)).trans (g65b (by omega) w)⟩) (fun w _ => y2.2 w) (fun w i h1 h2 => (p162bbbfrL (k + 4) _ (by omega) (by omega)).trans (((p65bbhst (by omega) w).2.2.2.2 i h2).trans (by rw [w65.2.1]))) (fun w i h1 h2 => (p162bbfr (k + 5) _ (by omega) (by omega) (by omega) (by omega) (by omega)).trans ((p65bbhst (by omega) w).2.2.2.1 i h2))
                             (fun x j h1 h2 => zxu (by omega) (zxu (by omega) (zxu (by omega) (zxu (by omega) rfl)))) (fun j => rfl)
                             (fun w x j hx hj => (p162bbfr x j (by omega) (by omega) (by omega) (by omega) (by omega)).trans (p65bbbfr x j (by omega) (by omega) (by omega) (by omega) (by omega) (by omega) (by omega))) (fun w j hj => (p162bbfr (k + 5) j (by omega) (by omega) (by omega) (by omega) (by omega)).trans (p65bbbfr (k + 5) j (by omega) (by omega) (by omega) (by omega) (by omega) (by omega) (by omega))) (fun w j hj => (p162bbfr (k + 6) j (by omega) (by omega) (by omega) (by omega) (by omega)).trans (p65bbbfr (k + 6) j (by omega) (by omega) (by omega) (by omega) (by omega) (by omega) (by omega))) (fun w j hj => (p162bbfr (k + 9) j (by omega) (by omega) (by omega) (by omega) (by omega)).trans (p65bbbfr (k + 9) j (by omega) (by omega) (by omega) (by omega) (by omega) (by omega) (by omega))) (fun w j hj => (p162bbbfrL (k + 4) j (by omega) (by omega)).trans (p65bbbbfrL (k + 4) j (by omega))), y2.1, zxe.trans (show _ = ((tyd s + 1 : Nat) : Int) by omega)⟩)
                      | (have e0 : ((tKd c (tSk tBk c n (p_ + 1)) (tSk tSm c n (tSk tBk c n (p_ + 1)))).toNat) = 0 := by omega
                         have hx : tVz c n 1 (tKd c (tSk tBk c n (p_ + 1)) (tSk tSm c n (tSk tBk c n (p_ + 1)))).toNat (tSk tSm c n (tSk tBk c n (p_ + 1))) (tFv (tKd c (tSk tBk c n (p_ + 1)) (tSk tSm c n (tSk tBk c n (p_ + 1)))).toNat (tyx s)) = -1 := by
                           rw [tyB_8 hc em.2.1 (show (tKd c (tSk tBk c n (p_ + 1)) (tSk tSm c n (tSk tBk c n (p_ + 1)))) ≠ 9 by omega)] at h9
                           exact h9
                         rw [tyB_v (show (tKd c (tSk tBk c n (p_ + 1)) (tSk tSm c n (tSk tBk c n (p_ + 1)))) ≠ 9 by omega) hx (fun w => absurd w (by decide))]
                         have hx2 := hx
                         rw [e0, tFv_00] at hx2
                         rcases p150hg with w | w
                         · exfalso
                           rw [tVz_v.1 w.1] at hx2
                           omega
                         · rw [tVz_v.2.1 w.1] at hx2
                           have y2 := w.2.2 hx2
                           have ex : tXx c n 1 ((tKd c (tSk tBk c n (p_ + 1)) (tSk tSm c n (tSk tBk c n (p_ + 1)))).toNat) (tSk tSm c n (tSk tBk c n (p_ + 1))) (tFv (tKd c (tSk tBk c n (p_ + 1)) (tSk tSm c n (tSk tBk c n (p_ + 1)))).toNat (tyx s)) (tyx s) = tNv c n (tGe c n (tSk tSm c n (tSk tBk c n (p_ + 1))) 1) 0 := by
                             rw [e0, tFv_00]
                             exact tVz_v.2.2.2 _
                           have ep : tVp c n 1 (tKd c (tSk tBk c n (p_ + 1)) (tSk tSm c n (tSk tBk c n (p_ + 1)))).toNat (tSk tSm c n (tSk tBk c n (p_ + 1))) (tFv (tKd c (tSk tBk c n (p_ + 1)) (tSk tSm c n (tSk tBk c n (p_ + 1)))).toNat (tyx s)) = tNe c n (tGe c n (tSk tSm c n (tSk tBk c n (p_ + 1))) 1) 0 := by
                             rw [e0, tFv_00]
                             exact tVz_v.2.2.1
                           exact ⟨zVO_O (I1 := I150o) (L1 := L150o) hs hg (a_ := ((tKd c (tSk tBk c n (p_ + 1)) (tSk tSm c n (tSk tBk c n (p_ + 1)))).toNat)) (by omega) (by omega) (Nat.le_refl _) (zxs (by omega) zxe) (zxs (by omega) (zxs (by omega) (zxu (by omega) (zxu (by omega) ((p150bfr k 22 (by omega) (by omega)).trans ((p65bbbfr k 22 (by omega) (by omega) (by omega) (by omega) (by omega) (by omega) (by omega)).trans s22)))))) ((zxs (by omega) (zxs (by omega) (zxu (by omega) (zxu (by omega) y2.2.1)))).trans ex.symm)
                             ⟨zxu (by omega) (zxu (by omega) (zxu (by omega) (zxe' (by omega)))), zxu (by omega) (zxu (by omega) ((zxe' (by omega)).trans (by omega)))⟩ (fun e he => ⟨zxu (by omega) (zxu (by omega) (zxu (by omega) (zxs (by omega) ((p150bfr (k + 10) e (by omega) (by omega)).trans (p65bbbfr (k + 10) e (by omega) (by omega) (by omega) (by omega) (by omega) (by omega) (by omega)))))), zxu (by omega) (zxu (by omega) (zxs (by omega) (zxu (by omega) ((p150bfr (k + 11) e (by omega) (by omega)).trans (p65bbbfr (k + 11) e (by omega) (by omega) (by omega) (by omega) (by omega) (by omega) (by omega))))))⟩)
                             (fun w => ⟨(p150bfr (k + 2) _ (by omega) (by omega)).trans ((p65bbhst (by omega) w).1.trans w65.2.1), (p150bfr (k + 3) _ (by omega) (by omega)).trans (g65b (by omega) w)⟩) (fun w h => absurd e0 h) (fun w i h1 h2 => (p150bbfrL (k + 4) _ (by omega)).trans (((p65bbhst (by omega) w).2.2.2.2 i h2).trans (by rw [w65.2.1]))) (fun w i h1 h2 => (p150bfr (k + 5) _ (by omega) (by omega)).trans ((p65bbhst (by omega) w).2.2.2.1 i h2))
                             (fun x j h1 h2 => zxu (by omega) (zxu (by omega) (zxu (by omega) (zxu (by omega) rfl)))) (fun j => rfl)
                             (fun w x j hx hj => (p150bfr x j (by omega) (by omega)).trans (p65bbbfr x j (by omega) (by omega) (by omega) (by omega) (by omega) (by omega) (by omega))) (fun w j hj => (p150bfr (k + 5) j (by omega) (by omega)).trans (p65bbbfr (k + 5) j (by omega) (by omega) (by omega) (by omega) (by omega) (by omega) (by omega))) (fun w j hj => (p150bfr (k + 6) j (by omega) (by omega)).trans (p65bbbfr (k + 6) j (by omega) (by omega) (by omega) (by omega) (by omega) (by omega) (by omega))) (fun w j hj => (p150bfr (k + 9) j (by omega) (by omega)).trans (p65bbbfr (k + 9) j (by omega) (by omega) (by omega) (by omega) (by omega) (by omega) (by omega))) (fun w j hj => (p150bbfrL (k + 4) j (by omega)).trans (p65bbbbfrL (k + 4) j (by omega))), y2.1.trans (congrArg Nat.cast ep.symm), zxe.trans (show _ = ((tyd s + 1 : Nat) : Int) by omega)⟩)))
                | (exfalso; omega)
            · refine And.intro (zDX hD 0 rfl) ⟨_, sn_V_ver2.up (by decide), ?_⟩
              refine ⟨_, _, _, (v80o : Int), (tSk tSm c n (tSk tBk c n (p_ + 1))), (1 : Int), 1, rfl, hD, (by first | exact (zRM_fr hX (fun c j h => ((p65bbbfr c j (by omega) (by omega) (by omega) (by omega) (by omega) (by omega) (by omega)).trans rfl))) | (clear hQ; grind [xu])), (by first | exact hc | (clear hQ; grind [xu])), ⟨by omega, (tSm_s hc w65.1.1).2.1⟩, (by omega), (Eq.trans (b := ((-1) : Int)) w65.2.2.1 (by omega)), ?_⟩
              intro v150o I150o L150o p150hg p150bfr p150bbfrL p150bbbhvb9
              refine And.intro (zDX hD 0 rfl) (zrdR (v := some (k + 10)) (zDR hD 9 rfl) ?_)
              refine And.intro (zDX hD 0 rfl) (zrd (v := (tyn s)) ((p150bfr k 17 (by omega) (by omega)).trans ((p65bbbfr k 17 (by omega) (by omega) (by omega) (by omega) (by omega) (by omega) (by omega)).trans s17)) ?_)
              refine And.intro ⟨(by show 40 ≤ _; omega), (zDP hD 10 rfl rfl (by omega) (by omega))⟩ ⟨_, (zWi (by omega)), ?_⟩
              refine And.intro (zDX hD 0 rfl) (zrdR (v := some (k + 11)) (zDR hD 10 rfl) ?_)
              refine And.intro ⟨(by show 40 ≤ _; omega), (zDP hD 11 rfl rfl (by omega) (by omega))⟩ ⟨_, (zWi (by omega)), ?_⟩
              refine And.intro (zDX hD 0 rfl) (zrd (v := (tyn s)) (zxu (by omega) (zxu (by omega) ((p150bfr k 17 (by omega) (by omega)).trans ((p65bbbfr k 17 (by omega) (by omega) (by omega) (by omega) (by omega) (by omega) (by omega)).trans s17)))) ?_)
              refine And.intro (zDX hD 0 rfl) ⟨_, (zWi (by omega)), ?_⟩
              refine And.intro (zDX hD 0 rfl) ⟨_, (zWi (by omega)), ?_⟩
              refine hQ _ _ _ ?_ ?_ (by omega) (fun c j h0 h1 h2 h3 h4 h5 h6 h7 h8 h9 h10 h11 h12 h13 h14 h15 => (zxcj h6 (zxcj h1 (zxu h15 (zxu h14 ((p150bfr c j h2 h0).trans ((p65bbbfr c j h2 h3 h4 (fun w => h7 ⟨w.1, w.2.1⟩) (fun w => h8 ⟨w.1, w.2.1⟩) (fun w => h12 ⟨w.1, w.2.1⟩) (fun w => h9 ⟨w.1, w.2.1⟩)).trans rfl))))))) (fun c j h0 h1 => ((p150bbfrL c j h0).trans ((p65bbbbfrL c j (fun w => h1 ⟨w.1, w.2.1⟩)).trans rfl)))
              · first
                | (rw [show tyL c n s p_ = tyF s p_ from if_pos (by omega)]
                   exact zxe.trans (show _ = ((p_ : Nat) : Int) by omega))
                | (rw [show tyL c n s p_ = tyG c n 1 s (tSk tBk c n (p_ + 1)) p_ (tyd s) from if_neg (by omega)]
                   first
                   | (rw [tyG_n w65.1]
                      exact w65.2.2)
                   | (rw [tyG_t w65.1, tyB_9 (show (tKd c (tSk tBk c n (p_ + 1)) (tSk tSm c n (tSk tBk c n (p_ + 1)))) = 9 by omega), tkX_1]
                      exact zxs (by omega) p123hf)
                   | (rw [tyG_t w65.1, tyB_8 hc (tSm_s hc w65.1.1).2.1 (show (tKd c (tSk tBk c n (p_ + 1)) (tSk tSm c n (tSk tBk c n (p_ + 1)))) ≠ 9 by omega)]
                      exact zxs (by omega) (zxs (by omega) (zxu (by omega) (zxu (by omega) p162hf))))
                   | (rw [tyG_t w65.1, tyB_8 hc (tSm_s hc w65.1.1).2.1 (show (tKd c (tSk tBk c n (p_ + 1)) (tSk tSm c n (tSk tBk c n (p_ + 1)))) ≠ 9 by omega)]
                      have e0 : ((tKd c (tSk tBk c n (p_ + 1)) (tSk tSm c n (tSk tBk c n (p_ + 1)))).toNat) = 0 := by omega
                      rw [e0, tFv_00]
                      rcases p150hg with w | w
                      · rw [tVz_v.1 w.1]
                        exact zxs (by omega) (zxs (by omega) (zxu (by omega) (zxu (by omega) w.2)))
                      · rw [tVz_v.2.1 w.1]
                        exact zxs (by omega) (zxs (by omega) (zxu (by omega) (zxu (by omega) w.2.1)))))
                | (exfalso; omega)
              · intro h9
                first
                | (exfalso
                   rw [show tyL c n s p_ = tyF s p_ from if_pos (by omega)] at h9
                   exact tyF_f h9)
                | (rw [show tyL c n s p_ = tyG c n 1 s (tSk tBk c n (p_ + 1)) p_ (tyd s) from if_neg (by omega)] at h9 ⊢
                   first
                   | (exfalso
                      rw [tyG_n w65.1] at h9
                      exact tyF_f h9)
                   | (rw [tyG_t w65.1] at h9 ⊢
                      have em := tSm_s hc w65.1.1
                      first
                      | (have hx : tuX c n (p_ + 2000 - tyk s) (tyd s) (tSk tSm c n (tSk tBk c n (p_ + 1))) = -1 := by
                           rw [tyB_9 (show (tKd c (tSk tBk c n (p_ + 1)) (tSk tSm c n (tSk tBk c n (p_ + 1)))) = 9 by omega), tkX_1] at h9
                           exact h9
                         have y2 := p123bhok hx
                         have eb := tuX_b hc hx
                         have e9 : v65o.toNat = 9 := by omega
                         rw [tyB_u (show (tKd c (tSk tBk c n (p_ + 1)) (tSk tSm c n (tSk tBk c n (p_ + 1)))) = 9 by omega) (tkX_1.trans hx), tkE_1]
                         refine ⟨?_, y2.1, zxs (by omega) ((p123bbbfr k 29 (by omega) (by omega) (by omega) (by omega)).trans ((p116bfr k 29 (by omega) (by omega) (by omega) (by omega)).trans (by first | exact zxu (by omega) ((p65bbbfr k 29 (by omega) (by omega) (by omega) (by omega) (by omega) (by omega) (by omega)).trans hdn) | exact (p65bbbfr k 29 (by omega) (by omega) (by omega) (by omega) (by omega) (by omega) (by omega)).trans hdn)))⟩
                         first
                         | exact zVO_U hs hg (by omega) (hn0_ w65.1 (by omega)) zxe (zVK_fr y2.2 (fun x j h => zxcj (by omega) rfl)) (zxs (by omega) ((p123bbbfr k 16 (by omega) (by omega) (by omega) (by omega)).trans ((p116bfr k 16 (by omega) (by omega) (by omega) (by omega)).trans (zxu (by omega) (p65bbbfr k 16 (by omega) (by omega) (by omega) (by omega) (by omega) (by omega) (by omega)))))) (fun e => ⟨zxu (by omega) ((p123bbbfr (k + 10) e (by omega) (by omega) (by omega) (by omega)).trans ((p116bfr (k + 10) e (by omega) (by omega) (by omega) (by omega)).trans (zxu (by omega) (p65bbbfr (k + 10) e (by omega) (by omega) (by omega) (by omega) (by omega) (by omega) (by omega))))), zxu (by omega) ((p123bbbfr (k + 11) e (by omega) (by omega) (by omega) (by omega)).trans ((p116bfr (k + 11) e (by omega) (by omega) (by omega) (by omega)).trans (zxu (by omega) (p65bbbfr (k + 11) e (by omega) (by omega) (by omega) (by omega) (by omega) (by omega) (by omega)))))⟩)
                             (fun w => ⟨zxu (by omega) ((p123bbbfr (k + 2) _ (by omega) (by omega) (by omega) (by omega)).trans ((p116bfr (k + 2) _ (by omega) (by omega) (by omega) (by omega)).trans (zxu (by omega) ((p65bbhst (by omega) w).1.trans (by omega))))), zxu (by omega) ((p123bbbfr (k + 3) _ (by omega) (by omega) (by omega) (by omega)).trans ((p116bfr (k + 3) _ (by omega) (by omega) (by omega) (by omega)).trans (zxu (by omega) (g65b (by omega) w))))⟩)
                             (fun w => zxu (by omega) ((p123bbbfr (k + 7) _ (by omega) (by omega) (by omega) (by omega)).trans ((p116bfr (k + 7) _ (by omega) (by omega) (by omega) (by omega)).trans (zxe' (by omega))))) (fun w i hi => ((p65bbhst (by omega) w).2.2.2.2 i hi).trans (by rw [e9]))
                             (fun w x j hx hj => zxu (by omega) ((p123bbbfr x j (by omega) (by omega) (by omega) (by omega)).trans ((p116bfr x j (by omega) (by omega) (by omega) (by omega)).trans (zxcj (by omega) (p65bbbfr x j (by omega) (by omega) (by omega) (by omega) (by omega) (by omega) (by omega)))))) (fun w j hj => zxu (by omega) ((p123bbbfr (k + 5) j (by omega) (by omega) (by omega) (by omega)).trans ((p116bfr (k + 5) j (by omega) (by omega) (by omega) (by omega)).trans (zxu (by omega) (p65bbbfr (k + 5) j (by omega) (by omega) (by omega) (by omega) (by omega) (by omega) (by omega)))))) (fun w j hj => zxu (by omega) ((p123bbbfr (k + 6) j (by omega) (by omega) (by omega) (by omega)).trans ((p116bfr (k + 6) j (by omega) (by omega) (by omega) (by omega)).trans (zxu (by omega) (p65bbbfr (k + 6) j (by omega) (by omega) (by omega) (by omega) (by omega) (by omega) (by omega)))))) (fun w j hj => zxu (by omega) ((p123bbbfr (k + 9) j (by omega) (by omega) (by omega) (by omega)).trans ((p116bfr (k + 9) j (by omega) (by omega) (by omega) (by omega)).trans (zxu (by omega) (p65bbbfr (k + 9) j (by omega) (by omega) (by omega) (by omega) (by omega) (by omega) (by omega)))))) (fun w j hj => p65bbbbfrL (k + 4) j (by omega))
                         | exact zVO_U hs hg (by omega) (hn0_ w65.1 (by omega)) zxe (zVK_fr y2.2 (fun x j h => zxcj (by omega) rfl)) (zxs (by omega) ((p123bbbfr k 16 (by omega) (by omega) (by omega) (by omega)).trans ((p116bfr k 16 (by omega) (by omega) (by omega) (by omega)).trans (p65bbbfr k 16 (by omega) (by omega) (by omega) (by omega) (by omega) (by omega) (by omega))))) (fun e => ⟨zxu (by omega) ((p123bbbfr (k + 10) e (by omega) (by omega) (by omega) (by omega)).trans ((p116bfr (k + 10) e (by omega) (by omega) (by omega) (by omega)).trans (p65bbbfr (k + 10) e (by omega) (by omega) (by omega) (by omega) (by omega) (by omega) (by omega)))), zxu (by omega) ((p123bbbfr (k + 11) e (by omega) (by omega) (by omega) (by omega)).trans ((p116bfr (k + 11) e (by omega) (by omega) (by omega) (by omega)).trans (p65bbbfr (k + 11) e (by omega) (by omega) (by omega) (by omega) (by omega) (by omega) (by omega))))⟩)
                             (fun w => by exfalso; omega) (fun w => by exfalso; omega) (fun w => by exfalso; omega) (fun w => by exfalso; omega) (fun w => by exfalso; omega) (fun w => by exfalso; omega) (fun w => by exfalso; omega) (fun w => by exfalso; omega))
                      | (have hx : tVz c n 1 (tKd c (tSk tBk c n (p_ + 1)) (tSk tSm c n (tSk tBk c n (p_ + 1)))).toNat (tSk tSm c n (tSk tBk c n (p_ + 1))) (tFv (tKd c (tSk tBk c n (p_ + 1)) (tSk tSm c n (tSk tBk c n (p_ + 1)))).toNat (tyx s)) = -1 := by
                           rw [tyB_8 hc em.2.1 (show (tKd c (tSk tBk c n (p_ + 1)) (tSk tSm c n (tSk tBk c n (p_ + 1)))) ≠ 9 by omega)] at h9
                           exact h9
                         have y2 := p162bhok hx
                         rw [tyB_v (show (tKd c (tSk tBk c n (p_ + 1)) (tSk tSm c n (tSk tBk c n (p_ + 1)))) ≠ 9 by omega) hx (fun w => absurd w (by decide))]
                         exact ⟨zVO_O (I1 := I162o) (L1 := L162o) hs hg (a_ := ((tKd c (tSk tBk c n (p_ + 1)) (tSk tSm c n (tSk tBk c n (p_ + 1)))).toNat)) (by omega) (by omega) (Nat.le_refl _) (zxs (by omega) zxe) (zxs (by omega) (zxs (by omega) (zxu (by omega) (zxu (by omega) ((p162bbfr k 22 (by omega) (by omega) (by omega) (by omega) (by omega)).trans ((p65bbbfr k 22 (by omega) (by omega) (by omega) (by omega) (by omega) (by omega) (by omega)).trans s22)))))) ((zxs (by omega) (zxs (by omega) (zxu (by omega) (zxu (by omega) ((p162bbfr k 16 (by omega) (by omega) (by omega) (by omega) (by omega)).trans ((p65bbbfr k 16 (by omega) (by omega) (by omega) (by omega) (by omega) (by omega) (by omega)).trans (s16 (hn0_ w65.1 (by omega))))))))).trans (tXx_f (by omega)).symm)
                             ⟨zxu (by omega) (zxu (by omega) (zxu (by omega) (zxe' (by omega)))), zxu (by omega) (zxu (by omega) ((zxe' (by omega)).trans (by omega)))⟩ (fun e he => ⟨zxu (by omega) (zxu (by omega) (zxu (by omega) (zxs (by omega) ((p162bbfr (k + 10) e (by omega) (by omega) (by omega) (by omega) (by omega)).trans (p65bbbfr (k + 10) e (by omega) (by omega) (by omega) (by omega) (by omega) (by omega) (by omega)))))), zxu (by omega) (zxu (by omega) (zxs (by omega) (zxu (by omega) ((p162bbfr (k + 11) e (by omega) (by omega) (by omega) (by omega) (by omega)).trans (p65bbbfr (k + 11) e (by omega) (by omega) (by omega) (by omega) (by omega) (by omega) (by omega))))))⟩)
                             (fun w => ⟨(p162bbfr (k + 2) _ (by omega) (by omega) (by omega) (by omega) (by omega)).trans ((p65bbhst (by omega) w).1.trans w65.2.1), (p162bbfr (k + 3) _ (by omega) (by omega) (by omega) (by omega) (by omega)).trans (g65b (by omega) w)⟩) (fun w _ => y2.2 w) (fun w i h1 h2 => (p162bbbfrL (k + 4) _ (by omega) (by omega)).trans (((p65bbhst (by omega) w).2.2.2.2 i h2).trans (by rw [w65.2.1]))) (fun w i h1 h2 => (p162bbfr (k + 5) _ (by omega) (by omega) (by omega) (by omega) (by omega)).trans ((p65bbhst (by omega) w).2.2.2.1 i h2))
                             (fun x j h1 h2 => zxu (by omega) (zxu (by omega) (zxu (by omega) (zxu (by omega) rfl)))) (fun j => rfl)
                             (fun w x j hx hj => (p162bbfr x j (by omega) (by omega) (by omega) (by omega) (by omega)).trans (p65bbbfr x j (by omega) (by omega) (by omega) (by omega) (by omega) (by omega) (by omega))) (fun w j hj => (p162bbfr (k + 5) j (by omega) (by omega) (by omega) (by omega) (by omega)).trans (p65bbbfr (k + 5) j (by omega) (by omega) (by omega) (by omega) (by omega) (by omega) (by omega))) (fun w j hj => (p162bbfr (k + 6) j (by omega) (by omega) (by omega) (by omega) (by omega)).trans (p65bbbfr (k + 6) j (by omega) (by omega) (by omega) (by omega) (by omega) (by omega) (by omega))) (fun w j hj => (p162bbfr (k + 9) j (by omega) (by omega) (by omega) (by omega) (by omega)).trans (p65bbbfr (k + 9) j (by omega) (by omega) (by omega) (by omega) (by omega) (by omega) (by omega))) (fun w j hj => (p162bbbfrL (k + 4) j (by omega) (by omega)).trans (p65bbbbfrL (k + 4) j (by omega))), y2.1, zxe.trans (show _ = ((tyd s + 1 : Nat) : Int) by omega)⟩)
                      | (have e0 : ((tKd c (tSk tBk c n (p_ + 1)) (tSk tSm c n (tSk tBk c n (p_ + 1)))).toNat) = 0 := by omega
                         have hx : tVz c n 1 (tKd c (tSk tBk c n (p_ + 1)) (tSk tSm c n (tSk tBk c n (p_ + 1)))).toNat (tSk tSm c n (tSk tBk c n (p_ + 1))) (tFv (tKd c (tSk tBk c n (p_ + 1)) (tSk tSm c n (tSk tBk c n (p_ + 1)))).toNat (tyx s)) = -1 := by
                           rw [tyB_8 hc em.2.1 (show (tKd c (tSk tBk c n (p_ + 1)) (tSk tSm c n (tSk tBk c n (p_ + 1)))) ≠ 9 by omega)] at h9
                           exact h9
                         rw [tyB_v (show (tKd c (tSk tBk c n (p_ + 1)) (tSk tSm c n (tSk tBk c n (p_ + 1)))) ≠ 9 by omega) hx (fun w => absurd w (by decide))]
                         have hx2 := hx
                         rw [e0, tFv_00] at hx2
                         rcases p150hg with w | w
                         · exfalso
                           rw [tVz_v.1 w.1] at hx2
                           omega
                         · rw [tVz_v.2.1 w.1] at hx2
                           have y2 := w.2.2 hx2
                           have ex : tXx c n 1 ((tKd c (tSk tBk c n (p_ + 1)) (tSk tSm c n (tSk tBk c n (p_ + 1)))).toNat) (tSk tSm c n (tSk tBk c n (p_ + 1))) (tFv (tKd c (tSk tBk c n (p_ + 1)) (tSk tSm c n (tSk tBk c n (p_ + 1)))).toNat (tyx s)) (tyx s) = tNv c n (tGe c n (tSk tSm c n (tSk tBk c n (p_ + 1))) 1) 0 := by
                             rw [e0, tFv_00]
                             exact tVz_v.2.2.2 _
                           have ep : tVp c n 1 (tKd c (tSk tBk c n (p_ + 1)) (tSk tSm c n (tSk tBk c n (p_ + 1)))).toNat (tSk tSm c n (tSk tBk c n (p_ + 1))) (tFv (tKd c (tSk tBk c n (p_ + 1)) (tSk tSm c n (tSk tBk c n (p_ + 1)))).toNat (tyx s)) = tNe c n (tGe c n (tSk tSm c n (tSk tBk c n (p_ + 1))) 1) 0 := by
                             rw [e0, tFv_00]
                             exact tVz_v.2.2.1
                           exact ⟨zVO_O (I1 := I150o) (L1 := L150o) hs hg (a_ := ((tKd c (tSk tBk c n (p_ + 1)) (tSk tSm c n (tSk tBk c n (p_ + 1)))).toNat)) (by omega) (by omega) (Nat.le_refl _) (zxs (by omega) zxe) (zxs (by omega) (zxs (by omega) (zxu (by omega) (zxu (by omega) ((p150bfr k 22 (by omega) (by omega)).trans ((p65bbbfr k 22 (by omega) (by omega) (by omega) (by omega) (by omega) (by omega) (by omega)).trans s22)))))) ((zxs (by omega) (zxs (by omega) (zxu (by omega) (zxu (by omega) y2.2.1)))).trans ex.symm)
                             ⟨zxu (by omega) (zxu (by omega) (zxu (by omega) (zxe' (by omega)))), zxu (by omega) (zxu (by omega) ((zxe' (by omega)).trans (by omega)))⟩ (fun e he => ⟨zxu (by omega) (zxu (by omega) (zxu (by omega) (zxs (by omega) ((p150bfr (k + 10) e (by omega) (by omega)).trans (p65bbbfr (k + 10) e (by omega) (by omega) (by omega) (by omega) (by omega) (by omega) (by omega)))))), zxu (by omega) (zxu (by omega) (zxs (by omega) (zxu (by omega) ((p150bfr (k + 11) e (by omega) (by omega)).trans (p65bbbfr (k + 11) e (by omega) (by omega) (by omega) (by omega) (by omega) (by omega) (by omega))))))⟩)
                             (fun w => ⟨(p150bfr (k + 2) _ (by omega) (by omega)).trans ((p65bbhst (by omega) w).1.trans w65.2.1), (p150bfr (k + 3) _ (by omega) (by omega)).trans (g65b (by omega) w)⟩) (fun w h => absurd e0 h) (fun w i h1 h2 => (p150bbfrL (k + 4) _ (by omega)).trans (((p65bbhst (by omega) w).2.2.2.2 i h2).trans (by rw [w65.2.1]))) (fun w i h1 h2 => (p150bfr (k + 5) _ (by omega) (by omega)).trans ((p65bbhst (by omega) w).2.2.2.1 i h2))
                             (fun x j h1 h2 => zxu (by omega) (zxu (by omega) (zxu (by omega) (zxu (by omega) rfl)))) (fun j => rfl)
                             (fun w x j hx hj => (p150bfr x j (by omega) (by omega)).trans (p65bbbfr x j (by omega) (by omega) (by omega) (by omega) (by omega) (by omega) (by omega))) (fun w j hj => (p150bfr (k + 5) j (by omega) (by omega)).trans (p65bbbfr (k + 5) j (by omega) (by omega) (by omega) (by omega) (by omega) (by omega) (by omega))) (fun w j hj => (p150bfr (k + 6) j (by omega) (by omega)).trans (p65bbbfr (k + 6) j (by omega) (by omega) (by omega) (by omega) (by omega) (by omega) (by omega))) (fun w j hj => (p150bfr (k + 9) j (by omega) (by omega)).trans (p65bbbfr (k + 9) j (by omega) (by omega) (by omega) (by omega) (by omega) (by omega) (by omega))) (fun w j hj => (p150bbfrL (k + 4) j (by omega)).trans (p65bbbbfrL (k + 4) j (by omega))), y2.1.trans (congrArg Nat.cast ep.symm), zxe.trans (show _ = ((tyd s + 1 : Nat) : Int) by omega)⟩)))
                | (exfalso; omega)
          · refine And.intro (zDX hD 0 rfl) (zrd (v := mk) ((p65bbbfr k 15 (by omega) (by omega) (by omega) (by omega) (by omega) (by omega) (by omega)).trans hmk) ?_)
            refine And.intro (by omega) ⟨fun h96 => ?_, fun h96 => ?_⟩
            · refine And.intro (zDX hD 0 rfl) ⟨_, sn_V_kep.up (by decide), ?_⟩
              refine ⟨_, _, _, mk, (tyn s), (p : Int), p_, (v80o : Int), (tSk tSm c n (tSk tBk c n (p_ + 1))), (tyk s), (p_ + 2000 - tyk s), 0, rfl, hD, (by first | exact (zRM_fr hX (fun c j h => ((p65bbbfr c j (by omega) (by omega) (by omega) (by omega) (by omega) (by omega) (by omega)).trans rfl))) | (clear hQ; grind [xu])), (by first | exact hc | (clear hQ; grind [xu])), ((p65bbbfr k 15 (by omega) (by omega) (by omega) (by omega) (by omega) (by omega) (by omega)).trans hmk), (by omega), ((p65bbbfr k 17 (by omega) (by omega) (by omega) (by omega) (by omega) (by omega) (by omega)).trans s17), (by omega), ⟨by omega, by have z := tSm_s hc w65.1.1; omega⟩, ⟨by omega, (tSm_s hc w65.1.1).2.1⟩, ((p65bbbfr k 22 (by omega) (by omega) (by omega) (by omega) (by omega) (by omega) (by omega)).trans s22), (by omega), (by omega), (fun e => by first | exact zxu (by omega) (p65bbhst (by omega) e).2.2.1 | exact (p65bbhst (by omega) e).2.2.1), (by omega), (Eq.trans (b := ((-1) : Int)) w65.2.2.1 (by omega)), ?_⟩
              intro I116o p116hg p116bfr
              refine And.intro (zDX hD 0 rfl) ⟨_, sn_V_psl.up (by decide), ?_⟩
              refine ⟨_, _, _, mk, (tyn s), (p_ + 2000 - tyk s), (tyd s), (tSk tSm c n (tSk tBk c n (p_ + 1))), p_, (tyk s), (v80o : Int), (d : Int), (I116o k 18), rfl, hD, (by first | exact (zRM_fr hX (fun c j h => ((p116bfr c j (by omega) (by omega) (by omega) (by omega)).trans ((p65bbbfr c j (by omega) (by omega) (by omega) (by omega) (by omega) (by omega) (by omega)).trans rfl)))) | (clear hQ; grind [xu])), (by first | exact hc | (clear hQ; grind [xu])), ((p116bfr k 15 (by omega) (by omega) (by omega) (by omega)).trans ((p65bbbfr k 15 (by omega) (by omega) (by omega) (by omega) (by omega) (by omega) (by omega)).trans hmk)), (by omega), ((p116bfr k 17 (by omega) (by omega) (by omega) (by omega)).trans ((p65bbbfr k 17 (by omega) (by omega) (by omega) (by omega) (by omega) (by omega) (by omega)).trans s17)), (by omega), ⟨by omega, (tSm_s hc w65.1.1).2.1⟩, (by omega), (by omega), (by have z := tSm_s hc w65.1.1; omega), (by omega), rfl, (by omega), (by
 rcases p116hg with w | w
 · exact Or.inl ⟨w.2.1, w.1, zVK_1 w.2.2.1 w.2.2.2⟩
 · exact Or.inr ⟨by omega, w.1, w.2⟩), ?_⟩
              intro v123o I123o p123hf p123bhok p123bbhvb p123bbbfr
              refine And.intro (zDX hD 0 rfl) (zrd (v := (tyn s)) ((p123bbbfr k 17 (by omega) (by omega) (by omega) (by omega)).trans ((p116bfr k 17 (by omega) (by omega) (by omega) (by omega)).trans ((p65bbbfr k 17 (by omega) (by omega) (by omega) (by omega) (by omega) (by omega) (by omega)).trans s17))) ?_)
              refine And.intro (zDX hD 0 rfl) ⟨_, (zWi (by omega)), ?_⟩
              refine hQ _ _ _ ?_ ?_ (by omega) (fun c j h0 h1 h2 h3 h4 h5 h6 h7 h8 h9 h10 h11 h12 h13 h14 h15 => (zxcj h1 ((p123bbbfr c j h2 h5 (fun w => h12 ⟨w.1, w.2.1⟩) (fun w => h13 ⟨w.1, w.2.1⟩)).trans ((p116bfr c j h2 h5 (fun w => h12 ⟨w.1, w.2.1⟩) (fun w => h13 ⟨w.1, w.2.1⟩)).trans ((p65bbbfr c j h2 h3 h4 (fun w => h7 ⟨w.1, w.2.1⟩) (fun w => h8 ⟨w.1, w.2.1⟩) (fun w => h12 ⟨w.1, w.2.1⟩) (fun w => h9 ⟨w.1, w.2.1⟩)).trans rfl))))) (fun c j h0 h1 => ((p65bbbbfrL c j (fun w => h1 ⟨w.1, w.2.1⟩)).trans rfl))
              · first
                | (rw [show tyL c n s p_ = tyF s p_ from if_pos (by omega)]
                   exact zxe.trans (show _ = ((p_ : Nat) : Int) by omega))
                | (rw [show tyL c n s p_ = tyG c n 1 s (tSk tBk c n (p_ + 1)) p_ (tyd s) from if_neg (by omega)]
                   first
                   | (rw [tyG_n w65.1]
                      exact w65.2.2)
                   | (rw [tyG_t w65.1, tyB_9 (show (tKd c (tSk tBk c n (p_ + 1)) (tSk tSm c n (tSk tBk c n (p_ + 1)))) = 9 by omega), tkX_1]
                      exact zxs (by omega) p123hf)
                   | (rw [tyG_t w65.1, tyB_8 hc (tSm_s hc w65.1.1).2.1 (show (tKd c (tSk tBk c n (p_ + 1)) (tSk tSm c n (tSk tBk c n (p_ + 1)))) ≠ 9 by omega)]
                      exact zxs (by omega) (zxs (by omega) (zxu (by omega) (zxu (by omega) p162hf))))
                   | (rw [tyG_t w65.1, tyB_8 hc (tSm_s hc w65.1.1).2.1 (show (tKd c (tSk tBk c n (p_ + 1)) (tSk tSm c n (tSk tBk c n (p_ + 1)))) ≠ 9 by omega)]
                      have e0 : ((tKd c (tSk tBk c n (p_ + 1)) (tSk tSm c n (tSk tBk c n (p_ + 1)))).toNat) = 0 := by omega
                      rw [e0, tFv_00]
                      rcases p150hg with w | w
                      · rw [tVz_v.1 w.1]
                        exact zxs (by omega) (zxs (by omega) (zxu (by omega) (zxu (by omega) w.2)))
                      · rw [tVz_v.2.1 w.1]
                        exact zxs (by omega) (zxs (by omega) (zxu (by omega) (zxu (by omega) w.2.1)))))
                | (exfalso; omega)
              · intro h9
                first
                | (exfalso
                   rw [show tyL c n s p_ = tyF s p_ from if_pos (by omega)] at h9
                   exact tyF_f h9)
                | (rw [show tyL c n s p_ = tyG c n 1 s (tSk tBk c n (p_ + 1)) p_ (tyd s) from if_neg (by omega)] at h9 ⊢
                   first
                   | (exfalso
                      rw [tyG_n w65.1] at h9
                      exact tyF_f h9)
                   | (rw [tyG_t w65.1] at h9 ⊢
                      have em := tSm_s hc w65.1.1
                      first
                      | (have hx : tuX c n (p_ + 2000 - tyk s) (tyd s) (tSk tSm c n (tSk tBk c n (p_ + 1))) = -1 := by
                           rw [tyB_9 (show (tKd c (tSk tBk c n (p_ + 1)) (tSk tSm c n (tSk tBk c n (p_ + 1)))) = 9 by omega), tkX_1] at h9
                           exact h9
                         have y2 := p123bhok hx
                         have eb := tuX_b hc hx
                         have e9 : v65o.toNat = 9 := by omega
                         rw [tyB_u (show (tKd c (tSk tBk c n (p_ + 1)) (tSk tSm c n (tSk tBk c n (p_ + 1)))) = 9 by omega) (tkX_1.trans hx), tkE_1]
                         refine ⟨?_, y2.1, zxs (by omega) ((p123bbbfr k 29 (by omega) (by omega) (by omega) (by omega)).trans ((p116bfr k 29 (by omega) (by omega) (by omega) (by omega)).trans (by first | exact zxu (by omega) ((p65bbbfr k 29 (by omega) (by omega) (by omega) (by omega) (by omega) (by omega) (by omega)).trans hdn) | exact (p65bbbfr k 29 (by omega) (by omega) (by omega) (by omega) (by omega) (by omega) (by omega)).trans hdn)))⟩
                         first
                         | exact zVO_U hs hg (by omega) (hn0_ w65.1 (by omega)) zxe (zVK_fr y2.2 (fun x j h => zxcj (by omega) rfl)) (zxs (by omega) ((p123bbbfr k 16 (by omega) (by omega) (by omega) (by omega)).trans ((p116bfr k 16 (by omega) (by omega) (by omega) (by omega)).trans (zxu (by omega) (p65bbbfr k 16 (by omega) (by omega) (by omega) (by omega) (by omega) (by omega) (by omega)))))) (fun e => ⟨zxu (by omega) ((p123bbbfr (k + 10) e (by omega) (by omega) (by omega) (by omega)).trans ((p116bfr (k + 10) e (by omega) (by omega) (by omega) (by omega)).trans (zxu (by omega) (p65bbbfr (k + 10) e (by omega) (by omega) (by omega) (by omega) (by omega) (by omega) (by omega))))), zxu (by omega) ((p123bbbfr (k + 11) e (by omega) (by omega) (by omega) (by omega)).trans ((p116bfr (k + 11) e (by omega) (by omega) (by omega) (by omega)).trans (zxu (by omega) (p65bbbfr (k + 11) e (by omega) (by omega) (by omega) (by omega) (by omega) (by omega) (by omega)))))⟩)
                             (fun w => ⟨zxu (by omega) ((p123bbbfr (k + 2) _ (by omega) (by omega) (by omega) (by omega)).trans ((p116bfr (k + 2) _ (by omega) (by omega) (by omega) (by omega)).trans (zxu (by omega) ((p65bbhst (by omega) w).1.trans (by omega))))), zxu (by omega) ((p123bbbfr (k + 3) _ (by omega) (by omega) (by omega) (by omega)).trans ((p116bfr (k + 3) _ (by omega) (by omega) (by omega) (by omega)).trans (zxu (by omega) (g65b (by omega) w))))⟩)
                             (fun w => zxu (by omega) ((p123bbbfr (k + 7) _ (by omega) (by omega) (by omega) (by omega)).trans ((p116bfr (k + 7) _ (by omega) (by omega) (by omega) (by omega)).trans (zxe' (by omega))))) (fun w i hi => ((p65bbhst (by omega) w).2.2.2.2 i hi).trans (by rw [e9]))
                             (fun w x j hx hj => zxu (by omega) ((p123bbbfr x j (by omega) (by omega) (by omega) (by omega)).trans ((p116bfr x j (by omega) (by omega) (by omega) (by omega)).trans (zxcj (by omega) (p65bbbfr x j (by omega) (by omega) (by omega) (by omega) (by omega) (by omega) (by omega)))))) (fun w j hj => zxu (by omega) ((p123bbbfr (k + 5) j (by omega) (by omega) (by omega) (by omega)).trans ((p116bfr (k + 5) j (by omega) (by omega) (by omega) (by omega)).trans (zxu (by omega) (p65bbbfr (k + 5) j (by omega) (by omega) (by omega) (by omega) (by omega) (by omega) (by omega)))))) (fun w j hj => zxu (by omega) ((p123bbbfr (k + 6) j (by omega) (by omega) (by omega) (by omega)).trans ((p116bfr (k + 6) j (by omega) (by omega) (by omega) (by omega)).trans (zxu (by omega) (p65bbbfr (k + 6) j (by omega) (by omega) (by omega) (by omega) (by omega) (by omega) (by omega)))))) (fun w j hj => zxu (by omega) ((p123bbbfr (k + 9) j (by omega) (by omega) (by omega) (by omega)).trans ((p116bfr (k + 9) j (by omega) (by omega) (by omega) (by omega)).trans (zxu (by omega) (p65bbbfr (k + 9) j (by omega) (by omega) (by omega) (by omega) (by omega) (by omega) (by omega)))))) (fun w j hj => p65bbbbfrL (k + 4) j (by omega))
                         | exact zVO_U hs hg (by omega) (hn0_ w65.1 (by omega)) zxe (zVK_fr y2.2 (fun x j h => zxcj (by omega) rfl)) (zxs (by omega) ((p123bbbfr k 16 (by omega) (by omega) (by omega) (by omega)).trans ((p116bfr k 16 (by omega) (by omega) (by omega) (by omega)).trans (p65bbbfr k 16 (by omega) (by omega) (by omega) (by omega) (by omega) (by omega) (by omega))))) (fun e => ⟨zxu (by omega) ((p123bbbfr (k + 10) e (by omega) (by omega) (by omega) (by omega)).trans ((p116bfr (k + 10) e (by omega) (by omega) (by omega) (by omega)).trans (p65bbbfr (k + 10) e (by omega) (by omega) (by omega) (by omega) (by omega) (by omega) (by omega)))), zxu (by omega) ((p123bbbfr (k + 11) e (by omega) (by omega) (by omega) (by omega)).trans ((p116bfr (k + 11) e (by omega) (by omega) (by omega) (by omega)).trans (p65bbbfr (k + 11) e (by omega) (by omega) (by omega) (by omega) (by omega) (by omega) (by omega))))⟩)
                             (fun w => by exfalso; omega) (fun w => by exfalso; omega) (fun w => by exfalso; omega) (fun w => by exfalso; omega) (fun w => by exfalso; omega) (fun w => by exfalso; omega) (fun w => by exfalso; omega) (fun w => by exfalso; omega))
                      | (have hx : tVz c n 1 (tKd c (tSk tBk c n (p_ + 1)) (tSk tSm c n (tSk tBk c n (p_ + 1)))).toNat (tSk tSm c n (tSk tBk c n (p_ + 1))) (tFv (tKd c (tSk tBk c n (p_ + 1)) (tSk tSm c n (tSk tBk c n (p_ + 1)))).toNat (tyx s)) = -1 := by
                           rw [tyB_8 hc em.2.1 (show (tKd c (tSk tBk c n (p_ + 1)) (tSk tSm c n (tSk tBk c n (p_ + 1)))) ≠ 9 by omega)] at h9
                           exact h9
                         have y2 := p162bhok hx
                         rw [tyB_v (show (tKd c (tSk tBk c n (p_ + 1)) (tSk tSm c n (tSk tBk c n (p_ + 1)))) ≠ 9 by omega) hx (fun w => absurd w (by decide))]
                         exact ⟨zVO_O (I1 := I162o) (L1 := L162o) hs hg (a_ := ((tKd c (tSk tBk c n (p_ + 1)) (tSk tSm c n (tSk tBk c n (p_ + 1)))).toNat)) (by omega) (by omega) (Nat.le_refl _) (zxs (by omega) zxe) (zxs (by omega) (zxs (by omega) (zxu (by omega) (zxu (by omega) ((p162bbfr k 22 (by omega) (by omega) (by omega) (by omega) (by omega)).trans ((p65bbbfr k 22 (by omega) (by omega) (by omega) (by omega) (by omega) (by omega) (by omega)).trans s22)))))) ((zxs (by omega) (zxs (by omega) (zxu (by omega) (zxu (by omega) ((p162bbfr k 16 (by omega) (by omega) (by omega) (by omega) (by omega)).trans ((p65bbbfr k 16 (by omega) (by omega) (by omega) (by omega) (by omega) (by omega) (by omega)).trans (s16 (hn0_ w65.1 (by omega))))))))).trans (tXx_f (by omega)).symm)
                             ⟨zxu (by omega) (zxu (by omega) (zxu (by omega) (zxe' (by omega)))), zxu (by omega) (zxu (by omega) ((zxe' (by omega)).trans (by omega)))⟩ (fun e he => ⟨zxu (by omega) (zxu (by omega) (zxu (by omega) (zxs (by omega) ((p162bbfr (k + 10) e (by omega) (by omega) (by omega) (by omega) (by omega)).trans (p65bbbfr (k + 10) e (by omega) (by omega) (by omega) (by omega) (by omega) (by omega) (by omega)))))), zxu (by omega) (zxu (by omega) (zxs (by omega) (zxu (by omega) ((p162bbfr (k + 11) e (by omega) (by omega) (by omega) (by omega) (by omega)).trans (p65bbbfr (k + 11) e (by omega) (by omega) (by omega) (by omega) (by omega) (by omega) (by omega))))))⟩)
                             (fun w => ⟨(p162bbfr (k + 2) _ (by omega) (by omega) (by omega) (by omega) (by omega)).trans ((p65bbhst (by omega) w).1.trans w65.2.1), (p162bbfr (k + 3) _ (by omega) (by omega) (by omega) (by omega) (by omega)).trans (g65b (by omega) w)⟩) (fun w _ => y2.2 w) (fun w i h1 h2 => (p162bbbfrL (k + 4) _ (by omega) (by omega)).trans (((p65bbhst (by omega) w).2.2.2.2 i h2).trans (by rw [w65.2.1]))) (fun w i h1 h2 => (p162bbfr (k + 5) _ (by omega) (by omega) (by omega) (by omega) (by omega)).trans ((p65bbhst (by omega) w).2.2.2.1 i h2))
                             (fun x j h1 h2 => zxu (by omega) (zxu (by omega) (zxu (by omega) (zxu (by omega) rfl)))) (fun j => rfl)
                             (fun w x j hx hj => (p162bbfr x j (by omega) (by omega) (by omega) (by omega) (by omega)).trans (p65bbbfr x j (by omega) (by omega) (by omega) (by omega) (by omega) (by omega) (by omega))) (fun w j hj => (p162bbfr (k + 5) j (by omega) (by omega) (by omega) (by omega) (by omega)).trans (p65bbbfr (k + 5) j (by omega) (by omega) (by omega) (by omega) (by omega) (by omega) (by omega))) (fun w j hj => (p162bbfr (k + 6) j (by omega) (by omega) (by omega) (by omega) (by omega)).trans (p65bbbfr (k + 6) j (by omega) (by omega) (by omega) (by omega) (by omega) (by omega) (by omega))) (fun w j hj => (p162bbfr (k + 9) j (by omega) (by omega) (by omega) (by omega) (by omega)).trans (p65bbbfr (k + 9) j (by omega) (by omega) (by omega) (by omega) (by omega) (by omega) (by omega))) (fun w j hj => (p162bbbfrL (k + 4) j (by omega) (by omega)).trans (p65bbbbfrL (k + 4) j (by omega))), y2.1, zxe.trans (show _ = ((tyd s + 1 : Nat) : Int) by omega)⟩)
                      | (have e0 : ((tKd c (tSk tBk c n (p_ + 1)) (tSk tSm c n (tSk tBk c n (p_ + 1)))).toNat) = 0 := by omega
                         have hx : tVz c n 1 (tKd c (tSk tBk c n (p_ + 1)) (tSk tSm c n (tSk tBk c n (p_ + 1)))).toNat (tSk tSm c n (tSk tBk c n (p_ + 1))) (tFv (tKd c (tSk tBk c n (p_ + 1)) (tSk tSm c n (tSk tBk c n (p_ + 1)))).toNat (tyx s)) = -1 := by
                           rw [tyB_8 hc em.2.1 (show (tKd c (tSk tBk c n (p_ + 1)) (tSk tSm c n (tSk tBk c n (p_ + 1)))) ≠ 9 by omega)] at h9
                           exact h9
                         rw [tyB_v (show (tKd c (tSk tBk c n (p_ + 1)) (tSk tSm c n (tSk tBk c n (p_ + 1)))) ≠ 9 by omega) hx (fun w => absurd w (by decide))]
                         have hx2 := hx
                         rw [e0, tFv_00] at hx2
                         rcases p150hg with w | w
                         · exfalso
                           rw [tVz_v.1 w.1] at hx2
                           omega
                         · rw [tVz_v.2.1 w.1] at hx2
                           have y2 := w.2.2 hx2
                           have ex : tXx c n 1 ((tKd c (tSk tBk c n (p_ + 1)) (tSk tSm c n (tSk tBk c n (p_ + 1)))).toNat) (tSk tSm c n (tSk tBk c n (p_ + 1))) (tFv (tKd c (tSk tBk c n (p_ + 1)) (tSk tSm c n (tSk tBk c n (p_ + 1)))).toNat (tyx s)) (tyx s) = tNv c n (tGe c n (tSk tSm c n (tSk tBk c n (p_ + 1))) 1) 0 := by
                             rw [e0, tFv_00]
                             exact tVz_v.2.2.2 _
                           have ep : tVp c n 1 (tKd c (tSk tBk c n (p_ + 1)) (tSk tSm c n (tSk tBk c n (p_ + 1)))).toNat (tSk tSm c n (tSk tBk c n (p_ + 1))) (tFv (tKd c (tSk tBk c n (p_ + 1)) (tSk tSm c n (tSk tBk c n (p_ + 1)))).toNat (tyx s)) = tNe c n (tGe c n (tSk tSm c n (tSk tBk c n (p_ + 1))) 1) 0 := by
                             rw [e0, tFv_00]
                             exact tVz_v.2.2.1
                           exact ⟨zVO_O (I1 := I150o) (L1 := L150o) hs hg (a_ := ((tKd c (tSk tBk c n (p_ + 1)) (tSk tSm c n (tSk tBk c n (p_ + 1)))).toNat)) (by omega) (by omega) (Nat.le_refl _) (zxs (by omega) zxe) (zxs (by omega) (zxs (by omega) (zxu (by omega) (zxu (by omega) ((p150bfr k 22 (by omega) (by omega)).trans ((p65bbbfr k 22 (by omega) (by omega) (by omega) (by omega) (by omega) (by omega) (by omega)).trans s22)))))) ((zxs (by omega) (zxs (by omega) (zxu (by omega) (zxu (by omega) y2.2.1)))).trans ex.symm)
                             ⟨zxu (by omega) (zxu (by omega) (zxu (by omega) (zxe' (by omega)))), zxu (by omega) (zxu (by omega) ((zxe' (by omega)).trans (by omega)))⟩ (fun e he => ⟨zxu (by omega) (zxu (by omega) (zxu (by omega) (zxs (by omega) ((p150bfr (k + 10) e (by omega) (by omega)).trans (p65bbbfr (k + 10) e (by omega) (by omega) (by omega) (by omega) (by omega) (by omega) (by omega)))))), zxu (by omega) (zxu (by omega) (zxs (by omega) (zxu (by omega) ((p150bfr (k + 11) e (by omega) (by omega)).trans (p65bbbfr (k + 11) e (by omega) (by omega) (by omega) (by omega) (by omega) (by omega) (by omega))))))⟩)
                             (fun w => ⟨(p150bfr (k + 2) _ (by omega) (by omega)).trans ((p65bbhst (by omega) w).1.trans w65.2.1), (p150bfr (k + 3) _ (by omega) (by omega)).trans (g65b (by omega) w)⟩) (fun w h => absurd e0 h) (fun w i h1 h2 => (p150bbfrL (k + 4) _ (by omega)).trans (((p65bbhst (by omega) w).2.2.2.2 i h2).trans (by rw [w65.2.1]))) (fun w i h1 h2 => (p150bfr (k + 5) _ (by omega) (by omega)).trans ((p65bbhst (by omega) w).2.2.2.1 i h2))
                             (fun x j h1 h2 => zxu (by omega) (zxu (by omega) (zxu (by omega) (zxu (by omega) rfl)))) (fun j => rfl)
                             (fun w x j hx hj => (p150bfr x j (by omega) (by omega)).trans (p65bbbfr x j (by omega) (by omega) (by omega) (by omega) (by omega) (by omega) (by omega))) (fun w j hj => (p150bfr (k + 5) j (by omega) (by omega)).trans (p65bbbfr (k + 5) j (by omega) (by omega) (by omega) (by omega) (by omega) (by omega) (by omega))) (fun w j hj => (p150bfr (k + 6) j (by omega) (by omega)).trans (p65bbbfr (k + 6) j (by omega) (by omega) (by omega) (by omega) (by omega) (by omega) (by omega))) (fun w j hj => (p150bfr (k + 9) j (by omega) (by omega)).trans (p65bbbfr (k + 9) j (by omega) (by omega) (by omega) (by omega) (by omega) (by omega) (by omega))) (fun w j hj => (p150bbfrL (k + 4) j (by omega)).trans (p65bbbbfrL (k + 4) j (by omega))), y2.1.trans (congrArg Nat.cast ep.symm), zxe.trans (show _ = ((tyd s + 1 : Nat) : Int) by omega)⟩)))
                | (exfalso; omega)
            · have t96 : mk = 1 := (by omega)
              refine And.intro (zDX hD 0 rfl) (zrdR (v := some (k + 7)) (zDR hD 6 rfl) ?_)
              refine And.intro (zDX hD 0 rfl) (zrd (v := (tyn s)) ((p65bbbfr k 17 (by omega) (by omega) (by omega) (by omega) (by omega) (by omega) (by omega)).trans s17) ?_)
              refine And.intro (zDX hD 0 rfl) (zrd (v := (tyk s)) ((p65bbbfr k 22 (by omega) (by omega) (by omega) (by omega) (by omega) (by omega) (by omega)).trans s22) ?_)
              refine And.intro ⟨(by show 40 ≤ _; omega), (zDP hD 7 rfl rfl (by omega) (by omega))⟩ ⟨_, (zWi (by omega)), ?_⟩
              refine And.intro (zDX hD 0 rfl) ⟨_, sn_V_kep.up (by decide), ?_⟩
              refine ⟨_, _, _, mk, (tyn s), (p : Int), p_, (v80o : Int), (tSk tSm c n (tSk tBk c n (p_ + 1))), (tyk s), (p_ + 2000 - tyk s), 0, rfl, hD, (by first | exact (zRM_fr hX (fun c j h => (zxcj (by omega) ((p65bbbfr c j (by omega) (by omega) (by omega) (by omega) (by omega) (by omega) (by omega)).trans rfl)))) | (clear hQ; grind [xu])), (by first | exact hc | (clear hQ; grind [xu])), (zxu (by omega) ((p65bbbfr k 15 (by omega) (by omega) (by omega) (by omega) (by omega) (by omega) (by omega)).trans hmk)), (by omega), (zxu (by omega) ((p65bbbfr k 17 (by omega) (by omega) (by omega) (by omega) (by omega) (by omega) (by omega)).trans s17)), (by omega), ⟨by omega, by have z := tSm_s hc w65.1.1; omega⟩, ⟨by omega, (tSm_s hc w65.1.1).2.1⟩, (zxu (by omega) ((p65bbbfr k 22 (by omega) (by omega) (by omega) (by omega) (by omega) (by omega) (by omega)).trans s22)), (by omega), (by omega), (fun e => by first | exact zxu (by omega) (p65bbhst (by omega) e).2.2.1 | exact (p65bbhst (by omega) e).2.2.1), (by omega), (Eq.trans (b := ((-1) : Int)) (zxu (by omega) w65.2.2.1) (by omega)), ?_⟩
              intro I116o p116hg p116bfr
              refine And.intro (zDX hD 0 rfl) ⟨_, sn_V_psl.up (by decide), ?_⟩
              refine ⟨_, _, _, mk, (tyn s), (p_ + 2000 - tyk s), (tyd s), (tSk tSm c n (tSk tBk c n (p_ + 1))), p_, (tyk s), (v80o : Int), (d : Int), (I116o k 18), rfl, hD, (by first | exact (zRM_fr hX (fun c j h => ((p116bfr c j (by omega) (by omega) (by omega) (by omega)).trans (zxcj (by omega) ((p65bbbfr c j (by omega) (by omega) (by omega) (by omega) (by omega) (by omega) (by omega)).trans rfl))))) | (clear hQ; grind [xu])), (by first | exact hc | (clear hQ; grind [xu])), ((p116bfr k 15 (by omega) (by omega) (by omega) (by omega)).trans (zxu (by omega) ((p65bbbfr k 15 (by omega) (by omega) (by omega) (by omega) (by omega) (by omega) (by omega)).trans hmk))), (by omega), ((p116bfr k 17 (by omega) (by omega) (by omega) (by omega)).trans (zxu (by omega) ((p65bbbfr k 17 (by omega) (by omega) (by omega) (by omega) (by omega) (by omega) (by omega)).trans s17))), (by omega), ⟨by omega, (tSm_s hc w65.1.1).2.1⟩, (by omega), (by omega), (by have z := tSm_s hc w65.1.1; omega), (by omega), rfl, (by omega), (by
 rcases p116hg with w | w
 · exact Or.inl ⟨w.2.1, w.1, zVK_1 w.2.2.1 w.2.2.2⟩
 · exact Or.inr ⟨by omega, w.1, w.2⟩), ?_⟩
              intro v123o I123o p123hf p123bhok p123bbhvb p123bbbfr
              refine And.intro (zDX hD 0 rfl) (zrd (v := (tyn s)) ((p123bbbfr k 17 (by omega) (by omega) (by omega) (by omega)).trans ((p116bfr k 17 (by omega) (by omega) (by omega) (by omega)).trans (zxu (by omega) ((p65bbbfr k 17 (by omega) (by omega) (by omega) (by omega) (by omega) (by omega) (by omega)).trans s17)))) ?_)
              refine And.intro (zDX hD 0 rfl) ⟨_, (zWi (by omega)), ?_⟩
              refine hQ _ _ _ ?_ ?_ (by omega) (fun c j h0 h1 h2 h3 h4 h5 h6 h7 h8 h9 h10 h11 h12 h13 h14 h15 => (zxcj h1 ((p123bbbfr c j h2 h5 (fun w => h12 ⟨w.1, w.2.1⟩) (fun w => h13 ⟨w.1, w.2.1⟩)).trans ((p116bfr c j h2 h5 (fun w => h12 ⟨w.1, w.2.1⟩) (fun w => h13 ⟨w.1, w.2.1⟩)).trans (zxcj (fun w => h11 ⟨w.1, by omega⟩) ((p65bbbfr c j h2 h3 h4 (fun w => h7 ⟨w.1, w.2.1⟩) (fun w => h8 ⟨w.1, w.2.1⟩) (fun w => h12 ⟨w.1, w.2.1⟩) (fun w => h9 ⟨w.1, w.2.1⟩)).trans rfl)))))) (fun c j h0 h1 => ((p65bbbbfrL c j (fun w => h1 ⟨w.1, w.2.1⟩)).trans rfl))
              · first
                | (rw [show tyL c n s p_ = tyF s p_ from if_pos (by omega)]
                   exact zxe.trans (show _ = ((p_ : Nat) : Int) by omega))
                | (rw [show tyL c n s p_ = tyG c n 1 s (tSk tBk c n (p_ + 1)) p_ (tyd s) from if_neg (by omega)]
                   first
                   | (rw [tyG_n w65.1]
                      exact w65.2.2)
                   | (rw [tyG_t w65.1, tyB_9 (show (tKd c (tSk tBk c n (p_ + 1)) (tSk tSm c n (tSk tBk c n (p_ + 1)))) = 9 by omega), tkX_1]
                      exact zxs (by omega) p123hf)
                   | (rw [tyG_t w65.1, tyB_8 hc (tSm_s hc w65.1.1).2.1 (show (tKd c (tSk tBk c n (p_ + 1)) (tSk tSm c n (tSk tBk c n (p_ + 1)))) ≠ 9 by omega)]
                      exact zxs (by omega) (zxs (by omega) (zxu (by omega) (zxu (by omega) p162hf))))
                   | (rw [tyG_t w65.1, tyB_8 hc (tSm_s hc w65.1.1).2.1 (show (tKd c (tSk tBk c n (p_ + 1)) (tSk tSm c n (tSk tBk c n (p_ + 1)))) ≠ 9 by omega)]
                      have e0 : ((tKd c (tSk tBk c n (p_ + 1)) (tSk tSm c n (tSk tBk c n (p_ + 1)))).toNat) = 0 := by omega
                      rw [e0, tFv_00]
                      rcases p150hg with w | w
                      · rw [tVz_v.1 w.1]
                        exact zxs (by omega) (zxs (by omega) (zxu (by omega) (zxu (by omega) w.2)))
                      · rw [tVz_v.2.1 w.1]
                        exact zxs (by omega) (zxs (by omega) (zxu (by omega) (zxu (by omega) w.2.1)))))
                | (exfalso; omega)
              · intro h9
                first
                | (exfalso
                   rw [show tyL c n s p_ = tyF s p_ from if_pos (by omega)] at h9
                   exact tyF_f h9)
                | (rw [show tyL c n s p_ = tyG c n 1 s (tSk tBk c n (p_ + 1)) p_ (tyd s) from if_neg (by omega)] at h9 ⊢
                   first
                   | (exfalso
                      rw [tyG_n w65.1] at h9
                      exact tyF_f h9)
                   | (rw [tyG_t w65.1] at h9 ⊢
                      have em := tSm_s hc w65.1.1
                      first
                      | (have hx : tuX c n (p_ + 2000 - tyk s) (tyd s) (tSk tSm c n (tSk tBk c n (p_ + 1))) = -1 := by
                           rw [tyB_9 (show (tKd c (tSk tBk c n (p_ + 1)) (tSk tSm c n (tSk tBk c n (p_ + 1)))) = 9 by omega), tkX_1] at h9
                           exact h9
                         have y2 := p123bhok hx
                         have eb := tuX_b hc hx
                         have e9 : v65o.toNat = 9 := by omega
                         rw [tyB_u (show (tKd c (tSk tBk c n (p_ + 1)) (tSk tSm c n (tSk tBk c n (p_ + 1)))) = 9 by omega) (tkX_1.trans hx), tkE_1]
                         refine ⟨?_, y2.1, zxs (by omega) ((p123bbbfr k 29 (by omega) (by omega) (by omega) (by omega)).trans ((p116bfr k 29 (by omega) (by omega) (by omega) (by omega)).trans (by first | exact zxu (by omega) ((p65bbbfr k 29 (by omega) (by omega) (by omega) (by omega) (by omega) (by omega) (by omega)).trans hdn) | exact (p65bbbfr k 29 (by omega) (by omega) (by omega) (by omega) (by omega) (by omega) (by omega)).trans hdn)))⟩
                         first
                         | exact zVO_U hs hg (by omega) (hn0_ w65.1 (by omega)) zxe (zVK_fr y2.2 (fun x j h => zxcj (by omega) rfl)) (zxs (by omega) ((p123bbbfr k 16 (by omega) (by omega) (by omega) (by omega)).trans ((p116bfr k 16 (by omega) (by omega) (by omega) (by omega)).trans (zxu (by omega) (p65bbbfr k 16 (by omega) (by omega) (by omega) (by omega) (by omega) (by omega) (by omega)))))) (fun e => ⟨zxu (by omega) ((p123bbbfr (k + 10) e (by omega) (by omega) (by omega) (by omega)).trans ((p116bfr (k + 10) e (by omega) (by omega) (by omega) (by omega)).trans (zxu (by omega) (p65bbbfr (k + 10) e (by omega) (by omega) (by omega) (by omega) (by omega) (by omega) (by omega))))), zxu (by omega) ((p123bbbfr (k + 11) e (by omega) (by omega) (by omega) (by omega)).trans ((p116bfr (k + 11) e (by omega) (by omega) (by omega) (by omega)).trans (zxu (by omega) (p65bbbfr (k + 11) e (by omega) (by omega) (by omega) (by omega) (by omega) (by omega) (by omega)))))⟩)
                             (fun w => ⟨zxu (by omega) ((p123bbbfr (k + 2) _ (by omega) (by omega) (by omega) (by omega)).trans ((p116bfr (k + 2) _ (by omega) (by omega) (by omega) (by omega)).trans (zxu (by omega) ((p65bbhst (by omega) w).1.trans (by omega))))), zxu (by omega) ((p123bbbfr (k + 3) _ (by omega) (by omega) (by omega) (by omega)).trans ((p116bfr (k + 3) _ (by omega) (by omega) (by omega) (by omega)).trans (zxu (by omega) (g65b (by omega) w))))⟩)
                             (fun w => zxu (by omega) ((p123bbbfr (k + 7) _ (by omega) (by omega) (by omega) (by omega)).trans ((p116bfr (k + 7) _ (by omega) (by omega) (by omega) (by omega)).trans (zxe' (by omega))))) (fun w i hi => ((p65bbhst (by omega) w).2.2.2.2 i hi).trans (by rw [e9]))
                             (fun w x j hx hj => zxu (by omega) ((p123bbbfr x j (by omega) (by omega) (by omega) (by omega)).trans ((p116bfr x j (by omega) (by omega) (by omega) (by omega)).trans (zxcj (by omega) (p65bbbfr x j (by omega) (by omega) (by omega) (by omega) (by omega) (by omega) (by omega)))))) (fun w j hj => zxu (by omega) ((p123bbbfr (k + 5) j (by omega) (by omega) (by omega) (by omega)).trans ((p116bfr (k + 5) j (by omega) (by omega) (by omega) (by omega)).trans (zxu (by omega) (p65bbbfr (k + 5) j (by omega) (by omega) (by omega) (by omega) (by omega) (by omega) (by omega)))))) (fun w j hj => zxu (by omega) ((p123bbbfr (k + 6) j (by omega) (by omega) (by omega) (by omega)).trans ((p116bfr (k + 6) j (by omega) (by omega) (by omega) (by omega)).trans (zxu (by omega) (p65bbbfr (k + 6) j (by omega) (by omega) (by omega) (by omega) (by omega) (by omega) (by omega)))))) (fun w j hj => zxu (by omega) ((p123bbbfr (k + 9) j (by omega) (by omega) (by omega) (by omega)).trans ((p116bfr (k + 9) j (by omega) (by omega) (by omega) (by omega)).trans (zxu (by omega) (p65bbbfr (k + 9) j (by omega) (by omega) (by omega) (by omega) (by omega) (by omega) (by omega)))))) (fun w j hj => p65bbbbfrL (k + 4) j (by omega))
                         | exact zVO_U hs hg (by omega) (hn0_ w65.1 (by omega)) zxe (zVK_fr y2.2 (fun x j h => zxcj (by omega) rfl)) (zxs (by omega) ((p123bbbfr k 16 (by omega) (by omega) (by omega) (by omega)).trans ((p116bfr k 16 (by omega) (by omega) (by omega) (by omega)).trans (p65bbbfr k 16 (by omega) (by omega) (by omega) (by omega) (by omega) (by omega) (by omega))))) (fun e => ⟨zxu (by omega) ((p123bbbfr (k + 10) e (by omega) (by omega) (by omega) (by omega)).trans ((p116bfr (k + 10) e (by omega) (by omega) (by omega) (by omega)).trans (p65bbbfr (k + 10) e (by omega) (by omega) (by omega) (by omega) (by omega) (by omega) (by omega)))), zxu (by omega) ((p123bbbfr (k + 11) e (by omega) (by omega) (by omega) (by omega)).trans ((p116bfr (k + 11) e (by omega) (by omega) (by omega) (by omega)).trans (p65bbbfr (k + 11) e (by omega) (by omega) (by omega) (by omega) (by omega) (by omega) (by omega))))⟩)
                             (fun w => by exfalso; omega) (fun w => by exfalso; omega) (fun w => by exfalso; omega) (fun w => by exfalso; omega) (fun w => by exfalso; omega) (fun w => by exfalso; omega) (fun w => by exfalso; omega) (fun w => by exfalso; omega))
                      | (have hx : tVz c n 1 (tKd c (tSk tBk c n (p_ + 1)) (tSk tSm c n (tSk tBk c n (p_ + 1)))).toNat (tSk tSm c n (tSk tBk c n (p_ + 1))) (tFv (tKd c (tSk tBk c n (p_ + 1)) (tSk tSm c n (tSk tBk c n (p_ + 1)))).toNat (tyx s)) = -1 := by
                           rw [tyB_8 hc em.2.1 (show (tKd c (tSk tBk c n (p_ + 1)) (tSk tSm c n (tSk tBk c n (p_ + 1)))) ≠ 9 by omega)] at h9
                           exact h9
                         have y2 := p162bhok hx
                         rw [tyB_v (show (tKd c (tSk tBk c n (p_ + 1)) (tSk tSm c n (tSk tBk c n (p_ + 1)))) ≠ 9 by omega) hx (fun w => absurd w (by decide))]
                         exact ⟨zVO_O (I1 := I162o) (L1 := L162o) hs hg (a_ := ((tKd c (tSk tBk c n (p_ + 1)) (tSk tSm c n (tSk tBk c n (p_ + 1)))).toNat)) (by omega) (by omega) (Nat.le_refl _) (zxs (by omega) zxe) (zxs (by omega) (zxs (by omega) (zxu (by omega) (zxu (by omega) ((p162bbfr k 22 (by omega) (by omega) (by omega) (by omega) (by omega)).trans ((p65bbbfr k 22 (by omega) (by omega) (by omega) (by omega) (by omega) (by omega) (by omega)).trans s22)))))) ((zxs (by omega) (zxs (by omega) (zxu (by omega) (zxu (by omega) ((p162bbfr k 16 (by omega) (by omega) (by omega) (by omega) (by omega)).trans ((p65bbbfr k 16 (by omega) (by omega) (by omega) (by omega) (by omega) (by omega) (by omega)).trans (s16 (hn0_ w65.1 (by omega))))))))).trans (tXx_f (by omega)).symm)
                             ⟨zxu (by omega) (zxu (by omega) (zxu (by omega) (zxe' (by omega)))), zxu (by omega) (zxu (by omega) ((zxe' (by omega)).trans (by omega)))⟩ (fun e he => ⟨zxu (by omega) (zxu (by omega) (zxu (by omega) (zxs (by omega) ((p162bbfr (k + 10) e (by omega) (by omega) (by omega) (by omega) (by omega)).trans (p65bbbfr (k + 10) e (by omega) (by omega) (by omega) (by omega) (by omega) (by omega) (by omega)))))), zxu (by omega) (zxu (by omega) (zxs (by omega) (zxu (by omega) ((p162bbfr (k + 11) e (by omega) (by omega) (by omega) (by omega) (by omega)).trans (p65bbbfr (k + 11) e (by omega) (by omega) (by omega) (by omega) (by omega) (by omega) (by omega))))))⟩)
                             (fun w => ⟨(p162bbfr (k + 2) _ (by omega) (by omega) (by omega) (by omega) (by omega)).trans ((p65bbhst (by omega) w).1.trans w65.2.1), (p162bbfr (k + 3) _ (by omega) (by omega) (by omega) (by omega) (by omega)).trans (g65b (by omega) w)⟩) (fun w _ => y2.2 w) (fun w i h1 h2 => (p162bbbfrL (k + 4) _ (by omega) (by omega)).trans (((p65bbhst (by omega) w).2.2.2.2 i h2).trans (by rw [w65.2.1]))) (fun w i h1 h2 => (p162bbfr (k + 5) _ (by omega) (by omega) (by omega) (by omega) (by omega)).trans ((p65bbhst (by omega) w).2.2.2.1 i h2))
                             (fun x j h1 h2 => zxu (by omega) (zxu (by omega) (zxu (by omega) (zxu (by omega) rfl)))) (fun j => rfl)
                             (fun w x j hx hj => (p162bbfr x j (by omega) (by omega) (by omega) (by omega) (by omega)).trans (p65bbbfr x j (by omega) (by omega) (by omega) (by omega) (by omega) (by omega) (by omega))) (fun w j hj => (p162bbfr (k + 5) j (by omega) (by omega) (by omega) (by omega) (by omega)).trans (p65bbbfr (k + 5) j (by omega) (by omega) (by omega) (by omega) (by omega) (by omega) (by omega))) (fun w j hj => (p162bbfr (k + 6) j (by omega) (by omega) (by omega) (by omega) (by omega)).trans (p65bbbfr (k + 6) j (by omega) (by omega) (by omega) (by omega) (by omega) (by omega) (by omega))) (fun w j hj => (p162bbfr (k + 9) j (by omega) (by omega) (by omega) (by omega) (by omega)).trans (p65bbbfr (k + 9) j (by omega) (by omega) (by omega) (by omega) (by omega) (by omega) (by omega))) (fun w j hj => (p162bbbfrL (k + 4) j (by omega) (by omega)).trans (p65bbbbfrL (k + 4) j (by omega))), y2.1, zxe.trans (show _ = ((tyd s + 1 : Nat) : Int) by omega)⟩)
                      | (have e0 : ((tKd c (tSk tBk c n (p_ + 1)) (tSk tSm c n (tSk tBk c n (p_ + 1)))).toNat) = 0 := by omega
                         have hx : tVz c n 1 (tKd c (tSk tBk c n (p_ + 1)) (tSk tSm c n (tSk tBk c n (p_ + 1)))).toNat (tSk tSm c n (tSk tBk c n (p_ + 1))) (tFv (tKd c (tSk tBk c n (p_ + 1)) (tSk tSm c n (tSk tBk c n (p_ + 1)))).toNat (tyx s)) = -1 := by
                           rw [tyB_8 hc em.2.1 (show (tKd c (tSk tBk c n (p_ + 1)) (tSk tSm c n (tSk tBk c n (p_ + 1)))) ≠ 9 by omega)] at h9
                           exact h9
                         rw [tyB_v (show (tKd c (tSk tBk c n (p_ + 1)) (tSk tSm c n (tSk tBk c n (p_ + 1)))) ≠ 9 by omega) hx (fun w => absurd w (by decide))]
                         have hx2 := hx
                         rw [e0, tFv_00] at hx2
                         rcases p150hg with w | w
                         · exfalso
                           rw [tVz_v.1 w.1] at hx2
                           omega
                         · rw [tVz_v.2.1 w.1] at hx2
                           have y2 := w.2.2 hx2
                           have ex : tXx c n 1 ((tKd c (tSk tBk c n (p_ + 1)) (tSk tSm c n (tSk tBk c n (p_ + 1)))).toNat) (tSk tSm c n (tSk tBk c n (p_ + 1))) (tFv (tKd c (tSk tBk c n (p_ + 1)) (tSk tSm c n (tSk tBk c n (p_ + 1)))).toNat (tyx s)) (tyx s) = tNv c n (tGe c n (tSk tSm c n (tSk tBk c n (p_ + 1))) 1) 0 := by
                             rw [e0, tFv_00]
                             exact tVz_v.2.2.2 _
                           have ep : tVp c n 1 (tKd c (tSk tBk c n (p_ + 1)) (tSk tSm c n (tSk tBk c n (p_ + 1)))).toNat (tSk tSm c n (tSk tBk c n (p_ + 1))) (tFv (tKd c (tSk tBk c n (p_ + 1)) (tSk tSm c n (tSk tBk c n (p_ + 1)))).toNat (tyx s)) = tNe c n (tGe c n (tSk tSm c n (tSk tBk c n (p_ + 1))) 1) 0 := by
                             rw [e0, tFv_00]
                             exact tVz_v.2.2.1
                           exact ⟨zVO_O (I1 := I150o) (L1 := L150o) hs hg (a_ := ((tKd c (tSk tBk c n (p_ + 1)) (tSk tSm c n (tSk tBk c n (p_ + 1)))).toNat)) (by omega) (by omega) (Nat.le_refl _) (zxs (by omega) zxe) (zxs (by omega) (zxs (by omega) (zxu (by omega) (zxu (by omega) ((p150bfr k 22 (by omega) (by omega)).trans ((p65bbbfr k 22 (by omega) (by omega) (by omega) (by omega) (by omega) (by omega) (by omega)).trans s22)))))) ((zxs (by omega) (zxs (by omega) (zxu (by omega) (zxu (by omega) y2.2.1)))).trans ex.symm)
                             ⟨zxu (by omega) (zxu (by omega) (zxu (by omega) (zxe' (by omega)))), zxu (by omega) (zxu (by omega) ((zxe' (by omega)).trans (by omega)))⟩ (fun e he => ⟨zxu (by omega) (zxu (by omega) (zxu (by omega) (zxs (by omega) ((p150bfr (k + 10) e (by omega) (by omega)).trans (p65bbbfr (k + 10) e (by omega) (by omega) (by omega) (by omega) (by omega) (by omega) (by omega)))))), zxu (by omega) (zxu (by omega) (zxs (by omega) (zxu (by omega) ((p150bfr (k + 11) e (by omega) (by omega)).trans (p65bbbfr (k + 11) e (by omega) (by omega) (by omega) (by omega) (by omega) (by omega) (by omega))))))⟩)
                             (fun w => ⟨(p150bfr (k + 2) _ (by omega) (by omega)).trans ((p65bbhst (by omega) w).1.trans w65.2.1), (p150bfr (k + 3) _ (by omega) (by omega)).trans (g65b (by omega) w)⟩) (fun w h => absurd e0 h) (fun w i h1 h2 => (p150bbfrL (k + 4) _ (by omega)).trans (((p65bbhst (by omega) w).2.2.2.2 i h2).trans (by rw [w65.2.1]))) (fun w i h1 h2 => (p150bfr (k + 5) _ (by omega) (by omega)).trans ((p65bbhst (by omega) w).2.2.2.1 i h2))
                             (fun x j h1 h2 => zxu (by omega) (zxu (by omega) (zxu (by omega) (zxu (by omega) rfl)))) (fun j => rfl)
                             (fun w x j hx hj => (p150bfr x j (by omega) (by omega)).trans (p65bbbfr x j (by omega) (by omega) (by omega) (by omega) (by omega) (by omega) (by omega))) (fun w j hj => (p150bfr (k + 5) j (by omega) (by omega)).trans (p65bbbfr (k + 5) j (by omega) (by omega) (by omega) (by omega) (by omega) (by omega) (by omega))) (fun w j hj => (p150bfr (k + 6) j (by omega) (by omega)).trans (p65bbbfr (k + 6) j (by omega) (by omega) (by omega) (by omega) (by omega) (by omega) (by omega))) (fun w j hj => (p150bfr (k + 9) j (by omega) (by omega)).trans (p65bbbfr (k + 9) j (by omega) (by omega) (by omega) (by omega) (by omega) (by omega) (by omega))) (fun w j hj => (p150bbfrL (k + 4) j (by omega)).trans (p65bbbbfrL (k + 4) j (by omega))), y2.1.trans (congrArg Nat.cast ep.symm), zxe.trans (show _ = ((tyd s + 1 : Nat) : Int) by omega)⟩)))
                | (exfalso; omega)
        · refine hQ _ _ _ ?_ ?_ (by omega) (fun c j h0 h1 h2 h3 h4 h5 h6 h7 h8 h9 h10 h11 h12 h13 h14 h15 => ((p65bbbfr c j h2 h3 h4 (fun w => h7 ⟨w.1, w.2.1⟩) (fun w => h8 ⟨w.1, w.2.1⟩) (fun w => h12 ⟨w.1, w.2.1⟩) (fun w => h9 ⟨w.1, w.2.1⟩)).trans rfl)) (fun c j h0 h1 => ((p65bbbbfrL c j (fun w => h1 ⟨w.1, w.2.1⟩)).trans rfl))
          · first
            | (rw [show tyL c n s p_ = tyF s p_ from if_pos (by omega)]
               exact zxe.trans (show _ = ((p_ : Nat) : Int) by omega))
            | (rw [show tyL c n s p_ = tyG c n 1 s (tSk tBk c n (p_ + 1)) p_ (tyd s) from if_neg (by omega)]
               first
               | (rw [tyG_n w65.1]
                  exact w65.2.2)
               | (rw [tyG_t w65.1, tyB_9 (show (tKd c (tSk tBk c n (p_ + 1)) (tSk tSm c n (tSk tBk c n (p_ + 1)))) = 9 by omega), tkX_1]
                  exact zxs (by omega) p123hf)
               | (rw [tyG_t w65.1, tyB_8 hc (tSm_s hc w65.1.1).2.1 (show (tKd c (tSk tBk c n (p_ + 1)) (tSk tSm c n (tSk tBk c n (p_ + 1)))) ≠ 9 by omega)]
                  exact zxs (by omega) (zxs (by omega) (zxu (by omega) (zxu (by omega) p162hf))))
               | (rw [tyG_t w65.1, tyB_8 hc (tSm_s hc w65.1.1).2.1 (show (tKd c (tSk tBk c n (p_ + 1)) (tSk tSm c n (tSk tBk c n (p_ + 1)))) ≠ 9 by omega)]
                  have e0 : ((tKd c (tSk tBk c n (p_ + 1)) (tSk tSm c n (tSk tBk c n (p_ + 1)))).toNat) = 0 := by omega
                  rw [e0, tFv_00]
                  rcases p150hg with w | w
                  · rw [tVz_v.1 w.1]
                    exact zxs (by omega) (zxs (by omega) (zxu (by omega) (zxu (by omega) w.2)))
                  · rw [tVz_v.2.1 w.1]
                    exact zxs (by omega) (zxs (by omega) (zxu (by omega) (zxu (by omega) w.2.1)))))
            | (exfalso; omega)
          · intro h9
            first
            | (exfalso
               rw [show tyL c n s p_ = tyF s p_ from if_pos (by omega)] at h9
               exact tyF_f h9)
            | (rw [show tyL c n s p_ = tyG c n 1 s (tSk tBk c n (p_ + 1)) p_ (tyd s) from if_neg (by omega)] at h9 ⊢
               first
               | (exfalso
                  rw [tyG_n w65.1] at h9
                  exact tyF_f h9)
               | (rw [tyG_t w65.1] at h9 ⊢
                  have em := tSm_s hc w65.1.1
                  first
                  | (have hx : tuX c n (p_ + 2000 - tyk s) (tyd s) (tSk tSm c n (tSk tBk c n (p_ + 1))) = -1 := by
                       rw [tyB_9 (show (tKd c (tSk tBk c n (p_ + 1)) (tSk tSm c n (tSk tBk c n (p_ + 1)))) = 9 by omega), tkX_1] at h9
                       exact h9
                     have y2 := p123bhok hx
                     have eb := tuX_b hc hx
                     have e9 : v65o.toNat = 9 := by omega
                     rw [tyB_u (show (tKd c (tSk tBk c n (p_ + 1)) (tSk tSm c n (tSk tBk c n (p_ + 1)))) = 9 by omega) (tkX_1.trans hx), tkE_1]
                     refine ⟨?_, y2.1, zxs (by omega) ((p123bbbfr k 29 (by omega) (by omega) (by omega) (by omega)).trans ((p116bfr k 29 (by omega) (by omega) (by omega) (by omega)).trans (by first | exact zxu (by omega) ((p65bbbfr k 29 (by omega) (by omega) (by omega) (by omega) (by omega) (by omega) (by omega)).trans hdn) | exact (p65bbbfr k 29 (by omega) (by omega) (by omega) (by omega) (by omega) (by omega) (by omega)).trans hdn)))⟩
                     first
                     | exact zVO_U hs hg (by omega) (hn0_ w65.1 (by omega)) zxe (zVK_fr y2.2 (fun x j h => zxcj (by omega) rfl)) (zxs (by omega) ((p123bbbfr k 16 (by omega) (by omega) (by omega) (by omega)).trans ((p116bfr k 16 (by omega) (by omega) (by omega) (by omega)).trans (zxu (by omega) (p65bbbfr k 16 (by omega) (by omega) (by omega) (by omega) (by omega) (by omega) (by omega)))))) (fun e => ⟨zxu (by omega) ((p123bbbfr (k + 10) e (by omega) (by omega) (by omega) (by omega)).trans ((p116bfr (k + 10) e (by omega) (by omega) (by omega) (by omega)).trans (zxu (by omega) (p65bbbfr (k + 10) e (by omega) (by omega) (by omega) (by omega) (by omega) (by omega) (by omega))))), zxu (by omega) ((p123bbbfr (k + 11) e (by omega) (by omega) (by omega) (by omega)).trans ((p116bfr (k + 11) e (by omega) (by omega) (by omega) (by omega)).trans (zxu (by omega) (p65bbbfr (k + 11) e (by omega) (by omega) (by omega) (by omega) (by omega) (by omega) (by omega)))))⟩)
                         (fun w => ⟨zxu (by omega) ((p123bbbfr (k + 2) _ (by omega) (by omega) (by omega) (by omega)).trans ((p116bfr (k + 2) _ (by omega) (by omega) (by omega) (by omega)).trans (zxu (by omega) ((p65bbhst (by omega) w).1.trans (by omega))))), zxu (by omega) ((p123bbbfr (k + 3) _ (by omega) (by omega) (by omega) (by omega)).trans ((p116bfr (k + 3) _ (by omega) (by omega) (by omega) (by omega)).trans (zxu (by omega) (g65b (by omega) w))))⟩)
                         (fun w => zxu (by omega) ((p123bbbfr (k + 7) _ (by omega) (by omega) (by omega) (by omega)).trans ((p116bfr (k + 7) _ (by omega) (by omega) (by omega) (by omega)).trans (zxe' (by omega))))) (fun w i hi => ((p65bbhst (by omega) w).2.2.2.2 i hi).trans (by rw [e9]))
                         (fun w x j hx hj => zxu (by omega) ((p123bbbfr x j (by omega) (by omega) (by omega) (by omega)).trans ((p116bfr x j (by omega) (by omega) (by omega) (by omega)).trans (zxcj (by omega) (p65bbbfr x j (by omega) (by omega) (by omega) (by omega) (by omega) (by omega) (by omega)))))) (fun w j hj => zxu (by omega) ((p123bbbfr (k + 5) j (by omega) (by omega) (by omega) (by omega)).trans ((p116bfr (k + 5) j (by omega) (by omega) (by omega) (by omega)).trans (zxu (by omega) (p65bbbfr (k + 5) j (by omega) (by omega) (by omega) (by omega) (by omega) (by omega) (by omega)))))) (fun w j hj => zxu (by omega) ((p123bbbfr (k + 6) j (by omega) (by omega) (by omega) (by omega)).trans ((p116bfr (k + 6) j (by omega) (by omega) (by omega) (by omega)).trans (zxu (by omega) (p65bbbfr (k + 6) j (by omega) (by omega) (by omega) (by omega) (by omega) (by omega) (by omega)))))) (fun w j hj => zxu (by omega) ((p123bbbfr (k + 9) j (by omega) (by omega) (by omega) (by omega)).trans ((p116bfr (k + 9) j (by omega) (by omega) (by omega) (by omega)).trans (zxu (by omega) (p65bbbfr (k + 9) j (by omega) (by omega) (by omega) (by omega) (by omega) (by omega) (by omega)))))) (fun w j hj => p65bbbbfrL (k + 4) j (by omega))
                     | exact zVO_U hs hg (by omega) (hn0_ w65.1 (by omega)) zxe (zVK_fr y2.2 (fun x j h => zxcj (by omega) rfl)) (zxs (by omega) ((p123bbbfr k 16 (by omega) (by omega) (by omega) (by omega)).trans ((p116bfr k 16 (by omega) (by omega) (by omega) (by omega)).trans (p65bbbfr k 16 (by omega) (by omega) (by omega) (by omega) (by omega) (by omega) (by omega))))) (fun e => ⟨zxu (by omega) ((p123bbbfr (k + 10) e (by omega) (by omega) (by omega) (by omega)).trans ((p116bfr (k + 10) e (by omega) (by omega) (by omega) (by omega)).trans (p65bbbfr (k + 10) e (by omega) (by omega) (by omega) (by omega) (by omega) (by omega) (by omega)))), zxu (by omega) ((p123bbbfr (k + 11) e (by omega) (by omega) (by omega) (by omega)).trans ((p116bfr (k + 11) e (by omega) (by omega) (by omega) (by omega)).trans (p65bbbfr (k + 11) e (by omega) (by omega) (by omega) (by omega) (by omega) (by omega) (by omega))))⟩)
                         (fun w => by exfalso; omega) (fun w => by exfalso; omega) (fun w => by exfalso; omega) (fun w => by exfalso; omega) (fun w => by exfalso; omega) (fun w => by exfalso; omega) (fun w => by exfalso; omega) (fun w => by exfalso; omega))
                  | (have hx : tVz c n 1 (tKd c (tSk tBk c n (p_ + 1)) (tSk tSm c n (tSk tBk c n (p_ + 1)))).toNat (tSk tSm c n (tSk tBk c n (p_ + 1))) (tFv (tKd c (tSk tBk c n (p_ + 1)) (tSk tSm c n (tSk tBk c n (p_ + 1)))).toNat (tyx s)) = -1 := by
                       rw [tyB_8 hc em.2.1 (show (tKd c (tSk tBk c n (p_ + 1)) (tSk tSm c n (tSk tBk c n (p_ + 1)))) ≠ 9 by omega)] at h9
                       exact h9
                     have y2 := p162bhok hx
                     rw [tyB_v (show (tKd c (tSk tBk c n (p_ + 1)) (tSk tSm c n (tSk tBk c n (p_ + 1)))) ≠ 9 by omega) hx (fun w => absurd w (by decide))]
                     exact ⟨zVO_O (I1 := I162o) (L1 := L162o) hs hg (a_ := ((tKd c (tSk tBk c n (p_ + 1)) (tSk tSm c n (tSk tBk c n (p_ + 1)))).toNat)) (by omega) (by omega) (Nat.le_refl _) (zxs (by omega) zxe) (zxs (by omega) (zxs (by omega) (zxu (by omega) (zxu (by omega) ((p162bbfr k 22 (by omega) (by omega) (by omega) (by omega) (by omega)).trans ((p65bbbfr k 22 (by omega) (by omega) (by omega) (by omega) (by omega) (by omega) (by omega)).trans s22)))))) ((zxs (by omega) (zxs (by omega) (zxu (by omega) (zxu (by omega) ((p162bbfr k 16 (by omega) (by omega) (by omega) (by omega) (by omega)).trans ((p65bbbfr k 16 (by omega) (by omega) (by omega) (by omega) (by omega) (by omega) (by omega)).trans (s16 (hn0_ w65.1 (by omega))))))))).trans (tXx_f (by omega)).symm)
                         ⟨zxu (by omega) (zxu (by omega) (zxu (by omega) (zxe' (by omega)))), zxu (by omega) (zxu (by omega) ((zxe' (by omega)).trans (by omega)))⟩ (fun e he => ⟨zxu (by omega) (zxu (by omega) (zxu (by omega) (zxs (by omega) ((p162bbfr (k + 10) e (by omega) (by omega) (by omega) (by omega) (by omega)).trans (p65bbbfr (k + 10) e (by omega) (by omega) (by omega) (by omega) (by omega) (by omega) (by omega)))))), zxu (by omega) (zxu (by omega) (zxs (by omega) (zxu (by omega) ((p162bbfr (k + 11) e (by omega) (by omega) (by omega) (by omega) (by omega)).trans (p65bbbfr (k + 11) e (by omega) (by omega) (by omega) (by omega) (by omega) (by omega) (by omega))))))⟩)
                         (fun w => ⟨(p162bbfr (k + 2) _ (by omega) (by omega) (by omega) (by omega) (by omega)).trans ((p65bbhst (by omega) w).1.trans w65.2.1), (p162bbfr (k + 3) _ (by omega) (by omega) (by omega) (by omega) (by omega)).trans (g65b (by omega) w)⟩) (fun w _ => y2.2 w) (fun w i h1 h2 => (p162bbbfrL (k + 4) _ (by omega) (by omega)).trans (((p65bbhst (by omega) w).2.2.2.2 i h2).trans (by rw [w65.2.1]))) (fun w i h1 h2 => (p162bbfr (k + 5) _ (by omega) (by omega) (by omega) (by omega) (by omega)).trans ((p65bbhst (by omega) w).2.2.2.1 i h2))
                         (fun x j h1 h2 => zxu (by omega) (zxu (by omega) (zxu (by omega) (zxu (by omega) rfl)))) (fun j => rfl)
                         (fun w x j hx hj => (p162bbfr x j (by omega) (by omega) (by omega) (by omega) (by omega)).trans (p65bbbfr x j (by omega) (by omega) (by omega) (by omega) (by omega) (by omega) (by omega))) (fun w j hj => (p162bbfr (k + 5) j (by omega) (by omega) (by omega) (by omega) (by omega)).trans (p65bbbfr (k + 5) j (by omega) (by omega) (by omega) (by omega) (by omega) (by omega) (by omega))) (fun w j hj => (p162bbfr (k + 6) j (by omega) (by omega) (by omega) (by omega) (by omega)).trans (p65bbbfr (k + 6) j (by omega) (by omega) (by omega) (by omega) (by omega) (by omega) (by omega))) (fun w j hj => (p162bbfr (k + 9) j (by omega) (by omega) (by omega) (by omega) (by omega)).trans (p65bbbfr (k + 9) j (by omega) (by omega) (by omega) (by omega) (by omega) (by omega) (by omega))) (fun w j hj => (p162bbbfrL (k + 4) j (by omega) (by omega)).trans (p65bbbbfrL (k + 4) j (by omega))), y2.1, zxe.trans (show _ = ((tyd s + 1 : Nat) : Int) by omega)⟩)
                  | (have e0 : ((tKd c (tSk tBk c n (p_ + 1)) (tSk tSm c n (tSk tBk c n (p_ + 1)))).toNat) = 0 := by omega
                     have hx : tVz c n 1 (tKd c (tSk tBk c n (p_ + 1)) (tSk tSm c n (tSk tBk c n (p_ + 1)))).toNat (tSk tSm c n (tSk tBk c n (p_ + 1))) (tFv (tKd c (tSk tBk c n (p_ + 1)) (tSk tSm c n (tSk tBk c n (p_ + 1)))).toNat (tyx s)) = -1 := by
                       rw [tyB_8 hc em.2.1 (show (tKd c (tSk tBk c n (p_ + 1)) (tSk tSm c n (tSk tBk c n (p_ + 1)))) ≠ 9 by omega)] at h9
                       exact h9
                     rw [tyB_v (show (tKd c (tSk tBk c n (p_ + 1)) (tSk tSm c n (tSk tBk c n (p_ + 1)))) ≠ 9 by omega) hx (fun w => absurd w (by decide))]
                     have hx2 := hx
                     rw [e0, tFv_00] at hx2
                     rcases p150hg with w | w
                     · exfalso
                       rw [tVz_v.1 w.1] at hx2
                       omega
                     · rw [tVz_v.2.1 w.1] at hx2
                       have y2 := w.2.2 hx2
                       have ex : tXx c n 1 ((tKd c (tSk tBk c n (p_ + 1)) (tSk tSm c n (tSk tBk c n (p_ + 1)))).toNat) (tSk tSm c n (tSk tBk c n (p_ + 1))) (tFv (tKd c (tSk tBk c n (p_ + 1)) (tSk tSm c n (tSk tBk c n (p_ + 1)))).toNat (tyx s)) (tyx s) = tNv c n (tGe c n (tSk tSm c n (tSk tBk c n (p_ + 1))) 1) 0 := by
                         rw [e0, tFv_00]
                         exact tVz_v.2.2.2 _
                       have ep : tVp c n 1 (tKd c (tSk tBk c n (p_ + 1)) (tSk tSm c n (tSk tBk c n (p_ + 1)))).toNat (tSk tSm c n (tSk tBk c n (p_ + 1))) (tFv (tKd c (tSk tBk c n (p_ + 1)) (tSk tSm c n (tSk tBk c n (p_ + 1)))).toNat (tyx s)) = tNe c n (tGe c n (tSk tSm c n (tSk tBk c n (p_ + 1))) 1) 0 := by
                         rw [e0, tFv_00]
                         exact tVz_v.2.2.1
                       exact ⟨zVO_O (I1 := I150o) (L1 := L150o) hs hg (a_ := ((tKd c (tSk tBk c n (p_ + 1)) (tSk tSm c n (tSk tBk c n (p_ + 1)))).toNat)) (by omega) (by omega) (Nat.le_refl _) (zxs (by omega) zxe) (zxs (by omega) (zxs (by omega) (zxu (by omega) (zxu (by omega) ((p150bfr k 22 (by omega) (by omega)).trans ((p65bbbfr k 22 (by omega) (by omega) (by omega) (by omega) (by omega) (by omega) (by omega)).trans s22)))))) ((zxs (by omega) (zxs (by omega) (zxu (by omega) (zxu (by omega) y2.2.1)))).trans ex.symm)
                         ⟨zxu (by omega) (zxu (by omega) (zxu (by omega) (zxe' (by omega)))), zxu (by omega) (zxu (by omega) ((zxe' (by omega)).trans (by omega)))⟩ (fun e he => ⟨zxu (by omega) (zxu (by omega) (zxu (by omega) (zxs (by omega) ((p150bfr (k + 10) e (by omega) (by omega)).trans (p65bbbfr (k + 10) e (by omega) (by omega) (by omega) (by omega) (by omega) (by omega) (by omega)))))), zxu (by omega) (zxu (by omega) (zxs (by omega) (zxu (by omega) ((p150bfr (k + 11) e (by omega) (by omega)).trans (p65bbbfr (k + 11) e (by omega) (by omega) (by omega) (by omega) (by omega) (by omega) (by omega))))))⟩)
                         (fun w => ⟨(p150bfr (k + 2) _ (by omega) (by omega)).trans ((p65bbhst (by omega) w).1.trans w65.2.1), (p150bfr (k + 3) _ (by omega) (by omega)).trans (g65b (by omega) w)⟩) (fun w h => absurd e0 h) (fun w i h1 h2 => (p150bbfrL (k + 4) _ (by omega)).trans (((p65bbhst (by omega) w).2.2.2.2 i h2).trans (by rw [w65.2.1]))) (fun w i h1 h2 => (p150bfr (k + 5) _ (by omega) (by omega)).trans ((p65bbhst (by omega) w).2.2.2.1 i h2))
                         (fun x j h1 h2 => zxu (by omega) (zxu (by omega) (zxu (by omega) (zxu (by omega) rfl)))) (fun j => rfl)
                         (fun w x j hx hj => (p150bfr x j (by omega) (by omega)).trans (p65bbbfr x j (by omega) (by omega) (by omega) (by omega) (by omega) (by omega) (by omega))) (fun w j hj => (p150bfr (k + 5) j (by omega) (by omega)).trans (p65bbbfr (k + 5) j (by omega) (by omega) (by omega) (by omega) (by omega) (by omega) (by omega))) (fun w j hj => (p150bfr (k + 6) j (by omega) (by omega)).trans (p65bbbfr (k + 6) j (by omega) (by omega) (by omega) (by omega) (by omega) (by omega) (by omega))) (fun w j hj => (p150bfr (k + 9) j (by omega) (by omega)).trans (p65bbbfr (k + 9) j (by omega) (by omega) (by omega) (by omega) (by omega) (by omega) (by omega))) (fun w j hj => (p150bbfrL (k + 4) j (by omega)).trans (p65bbbbfrL (k + 4) j (by omega))), y2.1.trans (congrArg Nat.cast ep.symm), zxe.trans (show _ = ((tyd s + 1 : Nat) : Int) by omega)⟩)))
            | (exfalso; omega)
      · refine And.intro ⟨(by omega), (zRb rfl)⟩ ⟨(fun h73 => False.elim (by omega)), fun h73 => ?_⟩
        refine hQ _ _ _ ?_ ?_ (by omega) (fun c j h0 h1 h2 h3 h4 h5 h6 h7 h8 h9 h10 h11 h12 h13 h14 h15 => ((p65bbbfr c j h2 h3 h4 (fun w => h7 ⟨w.1, w.2.1⟩) (fun w => h8 ⟨w.1, w.2.1⟩) (fun w => h12 ⟨w.1, w.2.1⟩) (fun w => h9 ⟨w.1, w.2.1⟩)).trans rfl)) (fun c j h0 h1 => ((p65bbbbfrL c j (fun w => h1 ⟨w.1, w.2.1⟩)).trans rfl))
        · first
          | (rw [show tyL c n s p_ = tyF s p_ from if_pos (by omega)]
             exact zxe.trans (show _ = ((p_ : Nat) : Int) by omega))
          | (rw [show tyL c n s p_ = tyG c n 1 s (tSk tBk c n (p_ + 1)) p_ (tyd s) from if_neg (by omega)]
             first
             | (rw [tyG_n w65.1]
                exact w65.2.2)
             | (rw [tyG_t w65.1, tyB_9 (show (tKd c (tSk tBk c n (p_ + 1)) (tSk tSm c n (tSk tBk c n (p_ + 1)))) = 9 by omega), tkX_1]
                exact zxs (by omega) p123hf)
             | (rw [tyG_t w65.1, tyB_8 hc (tSm_s hc w65.1.1).2.1 (show (tKd c (tSk tBk c n (p_ + 1)) (tSk tSm c n (tSk tBk c n (p_ + 1)))) ≠ 9 by omega)]
                exact zxs (by omega) (zxs (by omega) (zxu (by omega) (zxu (by omega) p162hf))))
             | (rw [tyG_t w65.1, tyB_8 hc (tSm_s hc w65.1.1).2.1 (show (tKd c (tSk tBk c n (p_ + 1)) (tSk tSm c n (tSk tBk c n (p_ + 1)))) ≠ 9 by omega)]
                have e0 : ((tKd c (tSk tBk c n (p_ + 1)) (tSk tSm c n (tSk tBk c n (p_ + 1)))).toNat) = 0 := by omega
                rw [e0, tFv_00]
                rcases p150hg with w | w
                · rw [tVz_v.1 w.1]
                  exact zxs (by omega) (zxs (by omega) (zxu (by omega) (zxu (by omega) w.2)))
                · rw [tVz_v.2.1 w.1]
                  exact zxs (by omega) (zxs (by omega) (zxu (by omega) (zxu (by omega) w.2.1)))))
          | (exfalso; omega)
        · intro h9
          first
          | (exfalso
             rw [show tyL c n s p_ = tyF s p_ from if_pos (by omega)] at h9
             exact tyF_f h9)
          | (rw [show tyL c n s p_ = tyG c n 1 s (tSk tBk c n (p_ + 1)) p_ (tyd s) from if_neg (by omega)] at h9 ⊢
             first
             | (exfalso
                rw [tyG_n w65.1] at h9
                exact tyF_f h9)
             | (rw [tyG_t w65.1] at h9 ⊢
                have em := tSm_s hc w65.1.1
                first
                | (have hx : tuX c n (p_ + 2000 - tyk s) (tyd s) (tSk tSm c n (tSk tBk c n (p_ + 1))) = -1 := by
                     rw [tyB_9 (show (tKd c (tSk tBk c n (p_ + 1)) (tSk tSm c n (tSk tBk c n (p_ + 1)))) = 9 by omega), tkX_1] at h9
                     exact h9
                   have y2 := p123bhok hx
                   have eb := tuX_b hc hx
                   have e9 : v65o.toNat = 9 := by omega
                   rw [tyB_u (show (tKd c (tSk tBk c n (p_ + 1)) (tSk tSm c n (tSk tBk c n (p_ + 1)))) = 9 by omega) (tkX_1.trans hx), tkE_1]
                   refine ⟨?_, y2.1, zxs (by omega) ((p123bbbfr k 29 (by omega) (by omega) (by omega) (by omega)).trans ((p116bfr k 29 (by omega) (by omega) (by omega) (by omega)).trans (by first | exact zxu (by omega) ((p65bbbfr k 29 (by omega) (by omega) (by omega) (by omega) (by omega) (by omega) (by omega)).trans hdn) | exact (p65bbbfr k 29 (by omega) (by omega) (by omega) (by omega) (by omega) (by omega) (by omega)).trans hdn)))⟩
                   first
                   | exact zVO_U hs hg (by omega) (hn0_ w65.1 (by omega)) zxe (zVK_fr y2.2 (fun x j h => zxcj (by omega) rfl)) (zxs (by omega) ((p123bbbfr k 16 (by omega) (by omega) (by omega) (by omega)).trans ((p116bfr k 16 (by omega) (by omega) (by omega) (by omega)).trans (zxu (by omega) (p65bbbfr k 16 (by omega) (by omega) (by omega) (by omega) (by omega) (by omega) (by omega)))))) (fun e => ⟨zxu (by omega) ((p123bbbfr (k + 10) e (by omega) (by omega) (by omega) (by omega)).trans ((p116bfr (k + 10) e (by omega) (by omega) (by omega) (by omega)).trans (zxu (by omega) (p65bbbfr (k + 10) e (by omega) (by omega) (by omega) (by omega) (by omega) (by omega) (by omega))))), zxu (by omega) ((p123bbbfr (k + 11) e (by omega) (by omega) (by omega) (by omega)).trans ((p116bfr (k + 11) e (by omega) (by omega) (by omega) (by omega)).trans (zxu (by omega) (p65bbbfr (k + 11) e (by omega) (by omega) (by omega) (by omega) (by omega) (by omega) (by omega)))))⟩)
                       (fun w => ⟨zxu (by omega) ((p123bbbfr (k + 2) _ (by omega) (by omega) (by omega) (by omega)).trans ((p116bfr (k + 2) _ (by omega) (by omega) (by omega) (by omega)).trans (zxu (by omega) ((p65bbhst (by omega) w).1.trans (by omega))))), zxu (by omega) ((p123bbbfr (k + 3) _ (by omega) (by omega) (by omega) (by omega)).trans ((p116bfr (k + 3) _ (by omega) (by omega) (by omega) (by omega)).trans (zxu (by omega) (g65b (by omega) w))))⟩)
                       (fun w => zxu (by omega) ((p123bbbfr (k + 7) _ (by omega) (by omega) (by omega) (by omega)).trans ((p116bfr (k + 7) _ (by omega) (by omega) (by omega) (by omega)).trans (zxe' (by omega))))) (fun w i hi => ((p65bbhst (by omega) w).2.2.2.2 i hi).trans (by rw [e9]))
                       (fun w x j hx hj => zxu (by omega) ((p123bbbfr x j (by omega) (by omega) (by omega) (by omega)).trans ((p116bfr x j (by omega) (by omega) (by omega) (by omega)).trans (zxcj (by omega) (p65bbbfr x j (by omega) (by omega) (by omega) (by omega) (by omega) (by omega) (by omega)))))) (fun w j hj => zxu (by omega) ((p123bbbfr (k + 5) j (by omega) (by omega) (by omega) (by omega)).trans ((p116bfr (k + 5) j (by omega) (by omega) (by omega) (by omega)).trans (zxu (by omega) (p65bbbfr (k + 5) j (by omega) (by omega) (by omega) (by omega) (by omega) (by omega) (by omega)))))) (fun w j hj => zxu (by omega) ((p123bbbfr (k + 6) j (by omega) (by omega) (by omega) (by omega)).trans ((p116bfr (k + 6) j (by omega) (by omega) (by omega) (by omega)).trans (zxu (by omega) (p65bbbfr (k + 6) j (by omega) (by omega) (by omega) (by omega) (by omega) (by omega) (by omega)))))) (fun w j hj => zxu (by omega) ((p123bbbfr (k + 9) j (by omega) (by omega) (by omega) (by omega)).trans ((p116bfr (k + 9) j (by omega) (by omega) (by omega) (by omega)).trans (zxu (by omega) (p65bbbfr (k + 9) j (by omega) (by omega) (by omega) (by omega) (by omega) (by omega) (by omega)))))) (fun w j hj => p65bbbbfrL (k + 4) j (by omega))
                   | exact zVO_U hs hg (by omega) (hn0_ w65.1 (by omega)) zxe (zVK_fr y2.2 (fun x j h => zxcj (by omega) rfl)) (zxs (by omega) ((p123bbbfr k 16 (by omega) (by omega) (by omega) (by omega)).trans ((p116bfr k 16 (by omega) (by omega) (by omega) (by omega)).trans (p65bbbfr k 16 (by omega) (by omega) (by omega) (by omega) (by omega) (by omega) (by omega))))) (fun e => ⟨zxu (by omega) ((p123bbbfr (k + 10) e (by omega) (by omega) (by omega) (by omega)).trans ((p116bfr (k + 10) e (by omega) (by omega) (by omega) (by omega)).trans (p65bbbfr (k + 10) e (by omega) (by omega) (by omega) (by omega) (by omega) (by omega) (by omega)))), zxu (by omega) ((p123bbbfr (k + 11) e (by omega) (by omega) (by omega) (by omega)).trans ((p116bfr (k + 11) e (by omega) (by omega) (by omega) (by omega)).trans (p65bbbfr (k + 11) e (by omega) (by omega) (by omega) (by omega) (by omega) (by omega) (by omega))))⟩)
                       (fun w => by exfalso; omega) (fun w => by exfalso; omega) (fun w => by exfalso; omega) (fun w => by exfalso; omega) (fun w => by exfalso; omega) (fun w => by exfalso; omega) (fun w => by exfalso; omega) (fun w => by exfalso; omega))
                | (have hx : tVz c n 1 (tKd c (tSk tBk c n (p_ + 1)) (tSk tSm c n (tSk tBk c n (p_ + 1)))).toNat (tSk tSm c n (tSk tBk c n (p_ + 1))) (tFv (tKd c (tSk tBk c n (p_ + 1)) (tSk tSm c n (tSk tBk c n (p_ + 1)))).toNat (tyx s)) = -1 := by
                     rw [tyB_8 hc em.2.1 (show (tKd c (tSk tBk c n (p_ + 1)) (tSk tSm c n (tSk tBk c n (p_ + 1)))) ≠ 9 by omega)] at h9
                     exact h9
                   have y2 := p162bhok hx
                   rw [tyB_v (show (tKd c (tSk tBk c n (p_ + 1)) (tSk tSm c n (tSk tBk c n (p_ + 1)))) ≠ 9 by omega) hx (fun w => absurd w (by decide))]
                   exact ⟨zVO_O (I1 := I162o) (L1 := L162o) hs hg (a_ := ((tKd c (tSk tBk c n (p_ + 1)) (tSk tSm c n (tSk tBk c n (p_ + 1)))).toNat)) (by omega) (by omega) (Nat.le_refl _) (zxs (by omega) zxe) (zxs (by omega) (zxs (by omega) (zxu (by omega) (zxu (by omega) ((p162bbfr k 22 (by omega) (by omega) (by omega) (by omega) (by omega)).trans ((p65bbbfr k 22 (by omega) (by omega) (by omega) (by omega) (by omega) (by omega) (by omega)).trans s22)))))) ((zxs (by omega) (zxs (by omega) (zxu (by omega) (zxu (by omega) ((p162bbfr k 16 (by omega) (by omega) (by omega) (by omega) (by omega)).trans ((p65bbbfr k 16 (by omega) (by omega) (by omega) (by omega) (by omega) (by omega) (by omega)).trans (s16 (hn0_ w65.1 (by omega))))))))).trans (tXx_f (by omega)).symm)
                       ⟨zxu (by omega) (zxu (by omega) (zxu (by omega) (zxe' (by omega)))), zxu (by omega) (zxu (by omega) ((zxe' (by omega)).trans (by omega)))⟩ (fun e he => ⟨zxu (by omega) (zxu (by omega) (zxu (by omega) (zxs (by omega) ((p162bbfr (k + 10) e (by omega) (by omega) (by omega) (by omega) (by omega)).trans (p65bbbfr (k + 10) e (by omega) (by omega) (by omega) (by omega) (by omega) (by omega) (by omega)))))), zxu (by omega) (zxu (by omega) (zxs (by omega) (zxu (by omega) ((p162bbfr (k + 11) e (by omega) (by omega) (by omega) (by omega) (by omega)).trans (p65bbbfr (k + 11) e (by omega) (by omega) (by omega) (by omega) (by omega) (by omega) (by omega))))))⟩)
                       (fun w => ⟨(p162bbfr (k + 2) _ (by omega) (by omega) (by omega) (by omega) (by omega)).trans ((p65bbhst (by omega) w).1.trans w65.2.1), (p162bbfr (k + 3) _ (by omega) (by omega) (by omega) (by omega) (by omega)).trans (g65b (by omega) w)⟩) (fun w _ => y2.2 w) (fun w i h1 h2 => (p162bbbfrL (k + 4) _ (by omega) (by omega)).trans (((p65bbhst (by omega) w).2.2.2.2 i h2).trans (by rw [w65.2.1]))) (fun w i h1 h2 => (p162bbfr (k + 5) _ (by omega) (by omega) (by omega) (by omega) (by omega)).trans ((p65bbhst (by omega) w).2.2.2.1 i h2))
                       (fun x j h1 h2 => zxu (by omega) (zxu (by omega) (zxu (by omega) (zxu (by omega) rfl)))) (fun j => rfl)
                       (fun w x j hx hj => (p162bbfr x j (by omega) (by omega) (by omega) (by omega) (by omega)).trans (p65bbbfr x j (by omega) (by omega) (by omega) (by omega) (by omega) (by omega) (by omega))) (fun w j hj => (p162bbfr (k + 5) j (by omega) (by omega) (by omega) (by omega) (by omega)).trans (p65bbbfr (k + 5) j (by omega) (by omega) (by omega) (by omega) (by omega) (by omega) (by omega))) (fun w j hj => (p162bbfr (k + 6) j (by omega) (by omega) (by omega) (by omega) (by omega)).trans (p65bbbfr (k + 6) j (by omega) (by omega) (by omega) (by omega) (by omega) (by omega) (by omega))) (fun w j hj => (p162bbfr (k + 9) j (by omega) (by omega) (by omega) (by omega) (by omega)).trans (p65bbbfr (k + 9) j (by omega) (by omega) (by omega) (by omega) (by omega) (by omega) (by omega))) (fun w j hj => (p162bbbfrL (k + 4) j (by omega) (by omega)).trans (p65bbbbfrL (k + 4) j (by omega))), y2.1, zxe.trans (show _ = ((tyd s + 1 : Nat) : Int) by omega)⟩)
                | (have e0 : ((tKd c (tSk tBk c n (p_ + 1)) (tSk tSm c n (tSk tBk c n (p_ + 1)))).toNat) = 0 := by omega
                   have hx : tVz c n 1 (tKd c (tSk tBk c n (p_ + 1)) (tSk tSm c n (tSk tBk c n (p_ + 1)))).toNat (tSk tSm c n (tSk tBk c n (p_ + 1))) (tFv (tKd c (tSk tBk c n (p_ + 1)) (tSk tSm c n (tSk tBk c n (p_ + 1)))).toNat (tyx s)) = -1 := by
                     rw [tyB_8 hc em.2.1 (show (tKd c (tSk tBk c n (p_ + 1)) (tSk tSm c n (tSk tBk c n (p_ + 1)))) ≠ 9 by omega)] at h9
                     exact h9
                   rw [tyB_v (show (tKd c (tSk tBk c n (p_ + 1)) (tSk tSm c n (tSk tBk c n (p_ + 1)))) ≠ 9 by omega) hx (fun w => absurd w (by decide))]
                   have hx2 := hx
                   rw [e0, tFv_00] at hx2
                   rcases p150hg with w | w
                   · exfalso
                     rw [tVz_v.1 w.1] at hx2
                     omega
                   · rw [tVz_v.2.1 w.1] at hx2
                     have y2 := w.2.2 hx2
                     have ex : tXx c n 1 ((tKd c (tSk tBk c n (p_ + 1)) (tSk tSm c n (tSk tBk c n (p_ + 1)))).toNat) (tSk tSm c n (tSk tBk c n (p_ + 1))) (tFv (tKd c (tSk tBk c n (p_ + 1)) (tSk tSm c n (tSk tBk c n (p_ + 1)))).toNat (tyx s)) (tyx s) = tNv c n (tGe c n (tSk tSm c n (tSk tBk c n (p_ + 1))) 1) 0 := by
                       rw [e0, tFv_00]
                       exact tVz_v.2.2.2 _
                     have ep : tVp c n 1 (tKd c (tSk tBk c n (p_ + 1)) (tSk tSm c n (tSk tBk c n (p_ + 1)))).toNat (tSk tSm c n (tSk tBk c n (p_ + 1))) (tFv (tKd c (tSk tBk c n (p_ + 1)) (tSk tSm c n (tSk tBk c n (p_ + 1)))).toNat (tyx s)) = tNe c n (tGe c n (tSk tSm c n (tSk tBk c n (p_ + 1))) 1) 0 := by
                       rw [e0, tFv_00]
                       exact tVz_v.2.2.1
                     exact ⟨zVO_O (I1 := I150o) (L1 := L150o) hs hg (a_ := ((tKd c (tSk tBk c n (p_ + 1)) (tSk tSm c n (tSk tBk c n (p_ + 1)))).toNat)) (by omega) (by omega) (Nat.le_refl _) (zxs (by omega) zxe) (zxs (by omega) (zxs (by omega) (zxu (by omega) (zxu (by omega) ((p150bfr k 22 (by omega) (by omega)).trans ((p65bbbfr k 22 (by omega) (by omega) (by omega) (by omega) (by omega) (by omega) (by omega)).trans s22)))))) ((zxs (by omega) (zxs (by omega) (zxu (by omega) (zxu (by omega) y2.2.1)))).trans ex.symm)
                       ⟨zxu (by omega) (zxu (by omega) (zxu (by omega) (zxe' (by omega)))), zxu (by omega) (zxu (by omega) ((zxe' (by omega)).trans (by omega)))⟩ (fun e he => ⟨zxu (by omega) (zxu (by omega) (zxu (by omega) (zxs (by omega) ((p150bfr (k + 10) e (by omega) (by omega)).trans (p65bbbfr (k + 10) e (by omega) (by omega) (by omega) (by omega) (by omega) (by omega) (by omega)))))), zxu (by omega) (zxu (by omega) (zxs (by omega) (zxu (by omega) ((p150bfr (k + 11) e (by omega) (by omega)).trans (p65bbbfr (k + 11) e (by omega) (by omega) (by omega) (by omega) (by omega) (by omega) (by omega))))))⟩)
                       (fun w => ⟨(p150bfr (k + 2) _ (by omega) (by omega)).trans ((p65bbhst (by omega) w).1.trans w65.2.1), (p150bfr (k + 3) _ (by omega) (by omega)).trans (g65b (by omega) w)⟩) (fun w h => absurd e0 h) (fun w i h1 h2 => (p150bbfrL (k + 4) _ (by omega)).trans (((p65bbhst (by omega) w).2.2.2.2 i h2).trans (by rw [w65.2.1]))) (fun w i h1 h2 => (p150bfr (k + 5) _ (by omega) (by omega)).trans ((p65bbhst (by omega) w).2.2.2.1 i h2))
                       (fun x j h1 h2 => zxu (by omega) (zxu (by omega) (zxu (by omega) (zxu (by omega) rfl)))) (fun j => rfl)
                       (fun w x j hx hj => (p150bfr x j (by omega) (by omega)).trans (p65bbbfr x j (by omega) (by omega) (by omega) (by omega) (by omega) (by omega) (by omega))) (fun w j hj => (p150bfr (k + 5) j (by omega) (by omega)).trans (p65bbbfr (k + 5) j (by omega) (by omega) (by omega) (by omega) (by omega) (by omega) (by omega))) (fun w j hj => (p150bfr (k + 6) j (by omega) (by omega)).trans (p65bbbfr (k + 6) j (by omega) (by omega) (by omega) (by omega) (by omega) (by omega) (by omega))) (fun w j hj => (p150bfr (k + 9) j (by omega) (by omega)).trans (p65bbbfr (k + 9) j (by omega) (by omega) (by omega) (by omega) (by omega) (by omega) (by omega))) (fun w j hj => (p150bbfrL (k + 4) j (by omega)).trans (p65bbbbfrL (k + 4) j (by omega))), y2.1.trans (congrArg Nat.cast ep.symm), zxe.trans (show _ = ((tyd s + 1 : Nat) : Int) by omega)⟩)))
          | (exfalso; omega)
    · refine And.intro (by omega) ⟨(fun h50 => False.elim (by omega)), fun h50 => ?_⟩
      refine And.intro (zDX hD 0 rfl) ⟨_, sn_V_beg.up (by decide), ?_⟩
      refine ⟨_, _, _, (v15o : Int), (tSk tBk c n (p_ + 1)), ((-1) : Int), ((-1) : Int), mk, (tyn s), rfl, hD, (by first | exact (zRM_fr hX (fun c j h => rfl)) | (clear hQ; grind [xu])), (by first | exact hc | (clear hQ; grind [xu])), (by omega), (by omega), (by omega), hmk, (by omega), s17, (by omega), (Eq.trans (b := ((-1) : Int)) hf0 (by omega)), ?_⟩
      intro v65o I65o L65o p65hg p65bhv p65bbhst p65bbbfr p65bbbbfrL
      have g65 : (tBg c n (tSk tBk c n (p_ + 1)) (tyz s (tyd s)) (tyn s) ∧ v65o = (tKd c (tSk tBk c n (p_ + 1)) (tSk tSm c n (tSk tBk c n (p_ + 1)))) ∧ I65o k 18 = -1 ∧ I65o k 20 = 0 ∧ I65o k 21 = 0) ∨ (¬ tBg c n (tSk tBk c n (p_ + 1)) (tyz s (tyd s)) (tyn s) ∧ v65o = -1 ∧ I65o k 18 = (tSk tBk c n (p_ + 1))) := (by first | (rw [show tyz s (tyd s) = v48 by have z := tzp (by omega); omega]; exact p65hg) | (rw [(yz0 (by omega)).1]; exact p65hg))
      have g65b : 0 ≤ v65o → mk = 1 → I65o (k + 3) (tyn s) = tyy s (tyd s) := (fun e1 e2 => by have z := (p65bbhst e1 e2).2.1; first | (rw [show tyy s (tyd s) = v64 by have z := tzp (by omega); omega]; exact z) | (rw [(yz0 (by omega)).2]; exact z))
      rcases g65 with w65 | w65
      · refine And.intro ⟨(by omega), (zRb rfl)⟩ ⟨fun h73 => ?_, fun h73 => ?_⟩
        · have t73 : tyn s ≤ 199 ∧ (tSk tSm c n (tSk tBk c n (p_ + 1))) ≤ n ∧ (tSk tBk c n (p_ + 1)) < (tSk tSm c n (tSk tBk c n (p_ + 1))) := (by have z := tSm_s hc w65.1.1; have z2 := w65.1.2.2; exact ⟨by omega, z.2.1, z.1⟩)
          refine And.intro (zDX hD 0 rfl) ⟨_, sn_V_nme.up (by decide), ?_⟩
          refine ⟨_, _, _, (v15o : Int), (tSk tBk c n (p_ + 1)), rfl, hD, (by first | exact (zRM_fr hX (fun c j h => ((p65bbbfr c j (by omega) (by omega) (by omega) (by omega) (by omega) (by omega) (by omega)).trans rfl))) | (clear hQ; grind [xu])), (by first | exact hc | (clear hQ; grind [xu])), (by omega), ?_⟩
          intro v80o p80hv
          refine And.intro ⟨(by omega), (zRb rfl)⟩ ⟨fun h89 => ?_, fun h89 => ?_⟩
          · refine And.intro (by omega) ⟨fun h143 => ?_, fun h143 => ?_⟩
            · refine And.intro (zDX hD 0 rfl) ⟨_, sn_V_vals2.up (by decide), ?_⟩
              refine ⟨_, _, _, (v65o : Int), ((tKd c (tSk tBk c n (p_ + 1)) (tSk tSm c n (tSk tBk c n (p_ + 1)))).toNat), (v80o : Int), (tSk tSm c n (tSk tBk c n (p_ + 1))), (1 : Int), 1, mk, (tyn s), (tyx s), rfl, hD, (by first | exact (zRM_fr hX (fun c j h => ((p65bbbfr c j (by omega) (by omega) (by omega) (by omega) (by omega) (by omega) (by omega)).trans rfl))) | (clear hQ; grind [xu])), (by first | exact hc | (clear hQ; grind [xu])), (by omega), ⟨by omega, (tSm_s hc w65.1.1).2.1⟩, (by omega), ((p65bbbfr k 16 (by omega) (by omega) (by omega) (by omega) (by omega) (by omega) (by omega)).trans (s16 (hn0_ w65.1 (by omega)))), (by omega), ((p65bbbfr k 15 (by omega) (by omega) (by omega) (by omega) (by omega) (by omega) (by omega)).trans hmk), (by omega), ((p65bbbfr k 17 (by omega) (by omega) (by omega) (by omega) (by omega) (by omega) (by omega)).trans s17), (by omega), w65.2.2.2.2, w65.2.2.2.1, (Eq.trans (b := ((-1) : Int)) w65.2.2.1 (by omega)), ?_⟩
              intro v162o I162o L162o p162hf p162bhok p162bbfr p162bbbfrL p162bbbbhvb9
              refine And.intro (zDX hD 0 rfl) (zrdR (v := some (k + 10)) (zDR hD 9 rfl) ?_)
              refine And.intro (zDX hD 0 rfl) (zrd (v := (tyn s)) ((p162bbfr k 17 (by omega) (by omega) (by omega) (by omega) (by omega)).trans ((p65bbbfr k 17 (by omega) (by omega) (by omega) (by omega) (by omega) (by omega) (by omega)).trans s17)) ?_)
              refine And.intro ⟨(by show 40 ≤ _; omega), (zDP hD 10 rfl rfl (by omega) (by omega))⟩ ⟨_, (zWi (by omega)), ?_⟩
              refine And.intro (zDX hD 0 rfl) (zrdR (v := some (k + 11)) (zDR hD 10 rfl) ?_)
              refine And.intro ⟨(by show 40 ≤ _; omega), (zDP hD 11 rfl rfl (by omega) (by omega))⟩ ⟨_, (zWi (by omega)), ?_⟩
              refine And.intro (zDX hD 0 rfl) (zrd (v := (tyn s)) (zxu (by omega) (zxu (by omega) ((p162bbfr k 17 (by omega) (by omega) (by omega) (by omega) (by omega)).trans ((p65bbbfr k 17 (by omega) (by omega) (by omega) (by omega) (by omega) (by omega) (by omega)).trans s17)))) ?_)
              refine And.intro (zDX hD 0 rfl) ⟨_, (zWi (by omega)), ?_⟩
              refine And.intro (zDX hD 0 rfl) ⟨_, (zWi (by omega)), ?_⟩
              refine hQ _ _ _ ?_ ?_ (by omega) (fun c j h0 h1 h2 h3 h4 h5 h6 h7 h8 h9 h10 h11 h12 h13 h14 h15 => (zxcj h6 (zxcj h1 (zxu h15 (zxu h14 ((p162bbfr c j h2 h3 h4 (fun w => h9 ⟨w.1, w.2.1⟩) (fun w => h10 ⟨w.1, w.2.1⟩)).trans ((p65bbbfr c j h2 h3 h4 (fun w => h7 ⟨w.1, w.2.1⟩) (fun w => h8 ⟨w.1, w.2.1⟩) (fun w => h12 ⟨w.1, w.2.1⟩) (fun w => h9 ⟨w.1, w.2.1⟩)).trans rfl))))))) (fun c j h0 h1 => ((p162bbbfrL c j h0 (fun w => h1 ⟨w.1, w.2.1⟩)).trans ((p65bbbbfrL c j (fun w => h1 ⟨w.1, w.2.1⟩)).trans rfl)))
              · first
                | (rw [show tyL c n s p_ = tyF s p_ from if_pos (by omega)]
                   exact zxe.trans (show _ = ((p_ : Nat) : Int) by omega))
                | (rw [show tyL c n s p_ = tyG c n 1 s (tSk tBk c n (p_ + 1)) p_ (tyd s) from if_neg (by omega)]
                   first
                   | (rw [tyG_n w65.1]
                      exact w65.2.2)
                   | (rw [tyG_t w65.1, tyB_9 (show (tKd c (tSk tBk c n (p_ + 1)) (tSk tSm c n (tSk tBk c n (p_ + 1)))) = 9 by omega), tkX_1]
                      exact zxs (by omega) p123hf)
                   | (rw [tyG_t w65.1, tyB_8 hc (tSm_s hc w65.1.1).2.1 (show (tKd c (tSk tBk c n (p_ + 1)) (tSk tSm c n (tSk tBk c n (p_ + 1)))) ≠ 9 by omega)]
                      exact zxs (by omega) (zxs (by omega) (zxu (by omega) (zxu (by omega) p162hf))))
                   | (rw [tyG_t w65.1, tyB_8 hc (tSm_s hc w65.1.1).2.1 (show (tKd c (tSk tBk c n (p_ + 1)) (tSk tSm c n (tSk tBk c n (p_ + 1)))) ≠ 9 by omega)]
                      have e0 : ((tKd c (tSk tBk c n (p_ + 1)) (tSk tSm c n (tSk tBk c n (p_ + 1)))).toNat) = 0 := by omega
                      rw [e0, tFv_00]
                      rcases p150hg with w | w
                      · rw [tVz_v.1 w.1]
                        exact zxs (by omega) (zxs (by omega) (zxu (by omega) (zxu (by omega) w.2)))
                      · rw [tVz_v.2.1 w.1]
                        exact zxs (by omega) (zxs (by omega) (zxu (by omega) (zxu (by omega) w.2.1)))))
                | (exfalso; omega)
              · intro h9
                first
                | (exfalso
                   rw [show tyL c n s p_ = tyF s p_ from if_pos (by omega)] at h9
                   exact tyF_f h9)
                | (rw [show tyL c n s p_ = tyG c n 1 s (tSk tBk c n (p_ + 1)) p_ (tyd s) from if_neg (by omega)] at h9 ⊢
                   first
                   | (exfalso
                      rw [tyG_n w65.1] at h9
                      exact tyF_f h9)
                   | (rw [tyG_t w65.1] at h9 ⊢
                      have em := tSm_s hc w65.1.1
                      first
                      | (have hx : tuX c n (p_ + 2000 - tyk s) (tyd s) (tSk tSm c n (tSk tBk c n (p_ + 1))) = -1 := by
                           rw [tyB_9 (show (tKd c (tSk tBk c n (p_ + 1)) (tSk tSm c n (tSk tBk c n (p_ + 1)))) = 9 by omega), tkX_1] at h9
                           exact h9
                         have y2 := p123bhok hx
                         have eb := tuX_b hc hx
                         have e9 : v65o.toNat = 9 := by omega
                         rw [tyB_u (show (tKd c (tSk tBk c n (p_ + 1)) (tSk tSm c n (tSk tBk c n (p_ + 1)))) = 9 by omega) (tkX_1.trans hx), tkE_1]
                         refine ⟨?_, y2.1, zxs (by omega) ((p123bbbfr k 29 (by omega) (by omega) (by omega) (by omega)).trans ((p116bfr k 29 (by omega) (by omega) (by omega) (by omega)).trans (by first | exact zxu (by omega) ((p65bbbfr k 29 (by omega) (by omega) (by omega) (by omega) (by omega) (by omega) (by omega)).trans hdn) | exact (p65bbbfr k 29 (by omega) (by omega) (by omega) (by omega) (by omega) (by omega) (by omega)).trans hdn)))⟩
                         first
                         | exact zVO_U hs hg (by omega) (hn0_ w65.1 (by omega)) zxe (zVK_fr y2.2 (fun x j h => zxcj (by omega) rfl)) (zxs (by omega) ((p123bbbfr k 16 (by omega) (by omega) (by omega) (by omega)).trans ((p116bfr k 16 (by omega) (by omega) (by omega) (by omega)).trans (zxu (by omega) (p65bbbfr k 16 (by omega) (by omega) (by omega) (by omega) (by omega) (by omega) (by omega)))))) (fun e => ⟨zxu (by omega) ((p123bbbfr (k + 10) e (by omega) (by omega) (by omega) (by omega)).trans ((p116bfr (k + 10) e (by omega) (by omega) (by omega) (by omega)).trans (zxu (by omega) (p65bbbfr (k + 10) e (by omega) (by omega) (by omega) (by omega) (by omega) (by omega) (by omega))))), zxu (by omega) ((p123bbbfr (k + 11) e (by omega) (by omega) (by omega) (by omega)).trans ((p116bfr (k + 11) e (by omega) (by omega) (by omega) (by omega)).trans (zxu (by omega) (p65bbbfr (k + 11) e (by omega) (by omega) (by omega) (by omega) (by omega) (by omega) (by omega)))))⟩)
                             (fun w => ⟨zxu (by omega) ((p123bbbfr (k + 2) _ (by omega) (by omega) (by omega) (by omega)).trans ((p116bfr (k + 2) _ (by omega) (by omega) (by omega) (by omega)).trans (zxu (by omega) ((p65bbhst (by omega) w).1.trans (by omega))))), zxu (by omega) ((p123bbbfr (k + 3) _ (by omega) (by omega) (by omega) (by omega)).trans ((p116bfr (k + 3) _ (by omega) (by omega) (by omega) (by omega)).trans (zxu (by omega) (g65b (by omega) w))))⟩)
                             (fun w => zxu (by omega) ((p123bbbfr (k + 7) _ (by omega) (by omega) (by omega) (by omega)).trans ((p116bfr (k + 7) _ (by omega) (by omega) (by omega) (by omega)).trans (zxe' (by omega))))) (fun w i hi => ((p65bbhst (by omega) w).2.2.2.2 i hi).trans (by rw [e9]))
                             (fun w x j hx hj => zxu (by omega) ((p123bbbfr x j (by omega) (by omega) (by omega) (by omega)).trans ((p116bfr x j (by omega) (by omega) (by omega) (by omega)).trans (zxcj (by omega) (p65bbbfr x j (by omega) (by omega) (by omega) (by omega) (by omega) (by omega) (by omega)))))) (fun w j hj => zxu (by omega) ((p123bbbfr (k + 5) j (by omega) (by omega) (by omega) (by omega)).trans ((p116bfr (k + 5) j (by omega) (by omega) (by omega) (by omega)).trans (zxu (by omega) (p65bbbfr (k + 5) j (by omega) (by omega) (by omega) (by omega) (by omega) (by omega) (by omega)))))) (fun w j hj => zxu (by omega) ((p123bbbfr (k + 6) j (by omega) (by omega) (by omega) (by omega)).trans ((p116bfr (k + 6) j (by omega) (by omega) (by omega) (by omega)).trans (zxu (by omega) (p65bbbfr (k + 6) j (by omega) (by omega) (by omega) (by omega) (by omega) (by omega) (by omega)))))) (fun w j hj => zxu (by omega) ((p123bbbfr (k + 9) j (by omega) (by omega) (by omega) (by omega)).trans ((p116bfr (k + 9) j (by omega) (by omega) (by omega) (by omega)).trans (zxu (by omega) (p65bbbfr (k + 9) j (by omega) (by omega) (by omega) (by omega) (by omega) (by omega) (by omega)))))) (fun w j hj => p65bbbbfrL (k + 4) j (by omega))
                         | exact zVO_U hs hg (by omega) (hn0_ w65.1 (by omega)) zxe (zVK_fr y2.2 (fun x j h => zxcj (by omega) rfl)) (zxs (by omega) ((p123bbbfr k 16 (by omega) (by omega) (by omega) (by omega)).trans ((p116bfr k 16 (by omega) (by omega) (by omega) (by omega)).trans (p65bbbfr k 16 (by omega) (by omega) (by omega) (by omega) (by omega) (by omega) (by omega))))) (fun e => ⟨zxu (by omega) ((p123bbbfr (k + 10) e (by omega) (by omega) (by omega) (by omega)).trans ((p116bfr (k + 10) e (by omega) (by omega) (by omega) (by omega)).trans (p65bbbfr (k + 10) e (by omega) (by omega) (by omega) (by omega) (by omega) (by omega) (by omega)))), zxu (by omega) ((p123bbbfr (k + 11) e (by omega) (by omega) (by omega) (by omega)).trans ((p116bfr (k + 11) e (by omega) (by omega) (by omega) (by omega)).trans (p65bbbfr (k + 11) e (by omega) (by omega) (by omega) (by omega) (by omega) (by omega) (by omega))))⟩)
                             (fun w => by exfalso; omega) (fun w => by exfalso; omega) (fun w => by exfalso; omega) (fun w => by exfalso; omega) (fun w => by exfalso; omega) (fun w => by exfalso; omega) (fun w => by exfalso; omega) (fun w => by exfalso; omega))
                      | (have hx : tVz c n 1 (tKd c (tSk tBk c n (p_ + 1)) (tSk tSm c n (tSk tBk c n (p_ + 1)))).toNat (tSk tSm c n (tSk tBk c n (p_ + 1))) (tFv (tKd c (tSk tBk c n (p_ + 1)) (tSk tSm c n (tSk tBk c n (p_ + 1)))).toNat (tyx s)) = -1 := by
                           rw [tyB_8 hc em.2.1 (show (tKd c (tSk tBk c n (p_ + 1)) (tSk tSm c n (tSk tBk c n (p_ + 1)))) ≠ 9 by omega)] at h9
                           exact h9
                         have y2 := p162bhok hx
                         rw [tyB_v (show (tKd c (tSk tBk c n (p_ + 1)) (tSk tSm c n (tSk tBk c n (p_ + 1)))) ≠ 9 by omega) hx (fun w => absurd w (by decide))]
                         exact ⟨zVO_O (I1 := I162o) (L1 := L162o) hs hg (a_ := ((tKd c (tSk tBk c n (p_ + 1)) (tSk tSm c n (tSk tBk c n (p_ + 1)))).toNat)) (by omega) (by omega) (Nat.le_refl _) (zxs (by omega) zxe) (zxs (by omega) (zxs (by omega) (zxu (by omega) (zxu (by omega) ((p162bbfr k 22 (by omega) (by omega) (by omega) (by omega) (by omega)).trans ((p65bbbfr k 22 (by omega) (by omega) (by omega) (by omega) (by omega) (by omega) (by omega)).trans s22)))))) ((zxs (by omega) (zxs (by omega) (zxu (by omega) (zxu (by omega) ((p162bbfr k 16 (by omega) (by omega) (by omega) (by omega) (by omega)).trans ((p65bbbfr k 16 (by omega) (by omega) (by omega) (by omega) (by omega) (by omega) (by omega)).trans (s16 (hn0_ w65.1 (by omega))))))))).trans (tXx_f (by omega)).symm)
                             ⟨zxu (by omega) (zxu (by omega) (zxu (by omega) (zxe' (by omega)))), zxu (by omega) (zxu (by omega) ((zxe' (by omega)).trans (by omega)))⟩ (fun e he => ⟨zxu (by omega) (zxu (by omega) (zxu (by omega) (zxs (by omega) ((p162bbfr (k + 10) e (by omega) (by omega) (by omega) (by omega) (by omega)).trans (p65bbbfr (k + 10) e (by omega) (by omega) (by omega) (by omega) (by omega) (by omega) (by omega)))))), zxu (by omega) (zxu (by omega) (zxs (by omega) (zxu (by omega) ((p162bbfr (k + 11) e (by omega) (by omega) (by omega) (by omega) (by omega)).trans (p65bbbfr (k + 11) e (by omega) (by omega) (by omega) (by omega) (by omega) (by omega) (by omega))))))⟩)
                             (fun w => ⟨(p162bbfr (k + 2) _ (by omega) (by omega) (by omega) (by omega) (by omega)).trans ((p65bbhst (by omega) w).1.trans w65.2.1), (p162bbfr (k + 3) _ (by omega) (by omega) (by omega) (by omega) (by omega)).trans (g65b (by omega) w)⟩) (fun w _ => y2.2 w) (fun w i h1 h2 => (p162bbbfrL (k + 4) _ (by omega) (by omega)).trans (((p65bbhst (by omega) w).2.2.2.2 i h2).trans (by rw [w65.2.1]))) (fun w i h1 h2 => (p162bbfr (k + 5) _ (by omega) (by omega) (by omega) (by omega) (by omega)).trans ((p65bbhst (by omega) w).2.2.2.1 i h2))
                             (fun x j h1 h2 => zxu (by omega) (zxu (by omega) (zxu (by omega) (zxu (by omega) rfl)))) (fun j => rfl)
                             (fun w x j hx hj => (p162bbfr x j (by omega) (by omega) (by omega) (by omega) (by omega)).trans (p65bbbfr x j (by omega) (by omega) (by omega) (by omega) (by omega) (by omega) (by omega))) (fun w j hj => (p162bbfr (k + 5) j (by omega) (by omega) (by omega) (by omega) (by omega)).trans (p65bbbfr (k + 5) j (by omega) (by omega) (by omega) (by omega) (by omega) (by omega) (by omega))) (fun w j hj => (p162bbfr (k + 6) j (by omega) (by omega) (by omega) (by omega) (by omega)).trans (p65bbbfr (k + 6) j (by omega) (by omega) (by omega) (by omega) (by omega) (by omega) (by omega))) (fun w j hj => (p162bbfr (k + 9) j (by omega) (by omega) (by omega) (by omega) (by omega)).trans (p65bbbfr (k + 9) j (by omega) (by omega) (by omega) (by omega) (by omega) (by omega) (by omega))) (fun w j hj => (p162bbbfrL (k + 4) j (by omega) (by omega)).trans (p65bbbbfrL (k + 4) j (by omega))), y2.1, zxe.trans (show _ = ((tyd s + 1 : Nat) : Int) by omega)⟩)
                      | (have e0 : ((tKd c (tSk tBk c n (p_ + 1)) (tSk tSm c n (tSk tBk c n (p_ + 1)))).toNat) = 0 := by omega
                         have hx : tVz c n 1 (tKd c (tSk tBk c n (p_ + 1)) (tSk tSm c n (tSk tBk c n (p_ + 1)))).toNat (tSk tSm c n (tSk tBk c n (p_ + 1))) (tFv (tKd c (tSk tBk c n (p_ + 1)) (tSk tSm c n (tSk tBk c n (p_ + 1)))).toNat (tyx s)) = -1 := by
                           rw [tyB_8 hc em.2.1 (show (tKd c (tSk tBk c n (p_ + 1)) (tSk tSm c n (tSk tBk c n (p_ + 1)))) ≠ 9 by omega)] at h9
                           exact h9
                         rw [tyB_v (show (tKd c (tSk tBk c n (p_ + 1)) (tSk tSm c n (tSk tBk c n (p_ + 1)))) ≠ 9 by omega) hx (fun w => absurd w (by decide))]
                         have hx2 := hx
                         rw [e0, tFv_00] at hx2
                         rcases p150hg with w | w
                         · exfalso
                           rw [tVz_v.1 w.1] at hx2
                           omega
                         · rw [tVz_v.2.1 w.1] at hx2
                           have y2 := w.2.2 hx2
                           have ex : tXx c n 1 ((tKd c (tSk tBk c n (p_ + 1)) (tSk tSm c n (tSk tBk c n (p_ + 1)))).toNat) (tSk tSm c n (tSk tBk c n (p_ + 1))) (tFv (tKd c (tSk tBk c n (p_ + 1)) (tSk tSm c n (tSk tBk c n (p_ + 1)))).toNat (tyx s)) (tyx s) = tNv c n (tGe c n (tSk tSm c n (tSk tBk c n (p_ + 1))) 1) 0 := by
                             rw [e0, tFv_00]
                             exact tVz_v.2.2.2 _
                           have ep : tVp c n 1 (tKd c (tSk tBk c n (p_ + 1)) (tSk tSm c n (tSk tBk c n (p_ + 1)))).toNat (tSk tSm c n (tSk tBk c n (p_ + 1))) (tFv (tKd c (tSk tBk c n (p_ + 1)) (tSk tSm c n (tSk tBk c n (p_ + 1)))).toNat (tyx s)) = tNe c n (tGe c n (tSk tSm c n (tSk tBk c n (p_ + 1))) 1) 0 := by
                             rw [e0, tFv_00]
                             exact tVz_v.2.2.1
                           exact ⟨zVO_O (I1 := I150o) (L1 := L150o) hs hg (a_ := ((tKd c (tSk tBk c n (p_ + 1)) (tSk tSm c n (tSk tBk c n (p_ + 1)))).toNat)) (by omega) (by omega) (Nat.le_refl _) (zxs (by omega) zxe) (zxs (by omega) (zxs (by omega) (zxu (by omega) (zxu (by omega) ((p150bfr k 22 (by omega) (by omega)).trans ((p65bbbfr k 22 (by omega) (by omega) (by omega) (by omega) (by omega) (by omega) (by omega)).trans s22)))))) ((zxs (by omega) (zxs (by omega) (zxu (by omega) (zxu (by omega) y2.2.1)))).trans ex.symm)
                             ⟨zxu (by omega) (zxu (by omega) (zxu (by omega) (zxe' (by omega)))), zxu (by omega) (zxu (by omega) ((zxe' (by omega)).trans (by omega)))⟩ (fun e he => ⟨zxu (by omega) (zxu (by omega) (zxu (by omega) (zxs (by omega) ((p150bfr (k + 10) e (by omega) (by omega)).trans (p65bbbfr (k + 10) e (by omega) (by omega) (by omega) (by omega) (by omega) (by omega) (by omega)))))), zxu (by omega) (zxu (by omega) (zxs (by omega) (zxu (by omega) ((p150bfr (k + 11) e (by omega) (by omega)).trans (p65bbbfr (k + 11) e (by omega) (by omega) (by omega) (by omega) (by omega) (by omega) (by omega))))))⟩)
                             (fun w => ⟨(p150bfr (k + 2) _ (by omega) (by omega)).trans ((p65bbhst (by omega) w).1.trans w65.2.1), (p150bfr (k + 3) _ (by omega) (by omega)).trans (g65b (by omega) w)⟩) (fun w h => absurd e0 h) (fun w i h1 h2 => (p150bbfrL (k + 4) _ (by omega)).trans (((p65bbhst (by omega) w).2.2.2.2 i h2).trans (by rw [w65.2.1]))) (fun w i h1 h2 => (p150bfr (k + 5) _ (by omega) (by omega)).trans ((p65bbhst (by omega) w).2.2.2.1 i h2))
                             (fun x j h1 h2 => zxu (by omega) (zxu (by omega) (zxu (by omega) (zxu (by omega) rfl)))) (fun j => rfl)
                             (fun w x j hx hj => (p150bfr x j (by omega) (by omega)).trans (p65bbbfr x j (by omega) (by omega) (by omega) (by omega) (by omega) (by omega) (by omega))) (fun w j hj => (p150bfr (k + 5) j (by omega) (by omega)).trans (p65bbbfr (k + 5) j (by omega) (by omega) (by omega) (by omega) (by omega) (by omega) (by omega))) (fun w j hj => (p150bfr (k + 6) j (by omega) (by omega)).trans (p65bbbfr (k + 6) j (by omega) (by omega) (by omega) (by omega) (by omega) (by omega) (by omega))) (fun w j hj => (p150bfr (k + 9) j (by omega) (by omega)).trans (p65bbbfr (k + 9) j (by omega) (by omega) (by omega) (by omega) (by omega) (by omega) (by omega))) (fun w j hj => (p150bbfrL (k + 4) j (by omega)).trans (p65bbbbfrL (k + 4) j (by omega))), y2.1.trans (congrArg Nat.cast ep.symm), zxe.trans (show _ = ((tyd s + 1 : Nat) : Int) by omega)⟩)))
                | (exfalso; omega)
            · refine And.intro (zDX hD 0 rfl) ⟨_, sn_V_ver2.up (by decide), ?_⟩
              refine ⟨_, _, _, (v80o : Int), (tSk tSm c n (tSk tBk c n (p_ + 1))), (1 : Int), 1, rfl, hD, (by first | exact (zRM_fr hX (fun c j h => ((p65bbbfr c j (by omega) (by omega) (by omega) (by omega) (by omega) (by omega) (by omega)).trans rfl))) | (clear hQ; grind [xu])), (by first | exact hc | (clear hQ; grind [xu])), ⟨by omega, (tSm_s hc w65.1.1).2.1⟩, (by omega), (Eq.trans (b := ((-1) : Int)) w65.2.2.1 (by omega)), ?_⟩
              intro v150o I150o L150o p150hg p150bfr p150bbfrL p150bbbhvb9
              refine And.intro (zDX hD 0 rfl) (zrdR (v := some (k + 10)) (zDR hD 9 rfl) ?_)
              refine And.intro (zDX hD 0 rfl) (zrd (v := (tyn s)) ((p150bfr k 17 (by omega) (by omega)).trans ((p65bbbfr k 17 (by omega) (by omega) (by omega) (by omega) (by omega) (by omega) (by omega)).trans s17)) ?_)
              refine And.intro ⟨(by show 40 ≤ _; omega), (zDP hD 10 rfl rfl (by omega) (by omega))⟩ ⟨_, (zWi (by omega)), ?_⟩
              refine And.intro (zDX hD 0 rfl) (zrdR (v := some (k + 11)) (zDR hD 10 rfl) ?_)
              refine And.intro ⟨(by show 40 ≤ _; omega), (zDP hD 11 rfl rfl (by omega) (by omega))⟩ ⟨_, (zWi (by omega)), ?_⟩
              refine And.intro (zDX hD 0 rfl) (zrd (v := (tyn s)) (zxu (by omega) (zxu (by omega) ((p150bfr k 17 (by omega) (by omega)).trans ((p65bbbfr k 17 (by omega) (by omega) (by omega) (by omega) (by omega) (by omega) (by omega)).trans s17)))) ?_)
              refine And.intro (zDX hD 0 rfl) ⟨_, (zWi (by omega)), ?_⟩
              refine And.intro (zDX hD 0 rfl) ⟨_, (zWi (by omega)), ?_⟩
              refine hQ _ _ _ ?_ ?_ (by omega) (fun c j h0 h1 h2 h3 h4 h5 h6 h7 h8 h9 h10 h11 h12 h13 h14 h15 => (zxcj h6 (zxcj h1 (zxu h15 (zxu h14 ((p150bfr c j h2 h0).trans ((p65bbbfr c j h2 h3 h4 (fun w => h7 ⟨w.1, w.2.1⟩) (fun w => h8 ⟨w.1, w.2.1⟩) (fun w => h12 ⟨w.1, w.2.1⟩) (fun w => h9 ⟨w.1, w.2.1⟩)).trans rfl))))))) (fun c j h0 h1 => ((p150bbfrL c j h0).trans ((p65bbbbfrL c j (fun w => h1 ⟨w.1, w.2.1⟩)).trans rfl)))
              · first
                | (rw [show tyL c n s p_ = tyF s p_ from if_pos (by omega)]
                   exact zxe.trans (show _ = ((p_ : Nat) : Int) by omega))
                | (rw [show tyL c n s p_ = tyG c n 1 s (tSk tBk c n (p_ + 1)) p_ (tyd s) from if_neg (by omega)]
                   first
                   | (rw [tyG_n w65.1]
                      exact w65.2.2)
                   | (rw [tyG_t w65.1, tyB_9 (show (tKd c (tSk tBk c n (p_ + 1)) (tSk tSm c n (tSk tBk c n (p_ + 1)))) = 9 by omega), tkX_1]
                      exact zxs (by omega) p123hf)
                   | (rw [tyG_t w65.1, tyB_8 hc (tSm_s hc w65.1.1).2.1 (show (tKd c (tSk tBk c n (p_ + 1)) (tSk tSm c n (tSk tBk c n (p_ + 1)))) ≠ 9 by omega)]
                      exact zxs (by omega) (zxs (by omega) (zxu (by omega) (zxu (by omega) p162hf))))
                   | (rw [tyG_t w65.1, tyB_8 hc (tSm_s hc w65.1.1).2.1 (show (tKd c (tSk tBk c n (p_ + 1)) (tSk tSm c n (tSk tBk c n (p_ + 1)))) ≠ 9 by omega)]
                      have e0 : ((tKd c (tSk tBk c n (p_ + 1)) (tSk tSm c n (tSk tBk c n (p_ + 1)))).toNat) = 0 := by omega
                      rw [e0, tFv_00]
                      rcases p150hg with w | w
                      · rw [tVz_v.1 w.1]
                        exact zxs (by omega) (zxs (by omega) (zxu (by omega) (zxu (by omega) w.2)))
                      · rw [tVz_v.2.1 w.1]
                        exact zxs (by omega) (zxs (by omega) (zxu (by omega) (zxu (by omega) w.2.1)))))
                | (exfalso; omega)
              · intro h9
                first
                | (exfalso
                   rw [show tyL c n s p_ = tyF s p_ from if_pos (by omega)] at h9
                   exact tyF_f h9)
                | (rw [show tyL c n s p_ = tyG c n 1 s (tSk tBk c n (p_ + 1)) p_ (tyd s) from if_neg (by omega)] at h9 ⊢
                   first
                   | (exfalso
                      rw [tyG_n w65.1] at h9
                      exact tyF_f h9)
                   | (rw [tyG_t w65.1] at h9 ⊢
                      have em := tSm_s hc w65.1.1
                      first
                      | (have hx : tuX c n (p_ + 2000 - tyk s) (tyd s) (tSk tSm c n (tSk tBk c n (p_ + 1))) = -1 := by
                           rw [tyB_9 (show (tKd c (tSk tBk c n (p_ + 1)) (tSk tSm c n (tSk tBk c n (p_ + 1)))) = 9 by omega), tkX_1] at h9
                           exact h9
                         have y2 := p123bhok hx
                         have eb := tuX_b hc hx
                         have e9 : v65o.toNat = 9 := by omega
                         rw [tyB_u (show (tKd c (tSk tBk c n (p_ + 1)) (tSk tSm c n (tSk tBk c n (p_ + 1)))) = 9 by omega) (tkX_1.trans hx), tkE_1]
                         refine ⟨?_, y2.1, zxs (by omega) ((p123bbbfr k 29 (by omega) (by omega) (by omega) (by omega)).trans ((p116bfr k 29 (by omega) (by omega) (by omega) (by omega)).trans (by first | exact zxu (by omega) ((p65bbbfr k 29 (by omega) (by omega) (by omega) (by omega) (by omega) (by omega) (by omega)).trans hdn) | exact (p65bbbfr k 29 (by omega) (by omega) (by omega) (by omega) (by omega) (by omega) (by omega)).trans hdn)))⟩
                         first
                         | exact zVO_U hs hg (by omega) (hn0_ w65.1 (by omega)) zxe (zVK_fr y2.2 (fun x j h => zxcj (by omega) rfl)) (zxs (by omega) ((p123bbbfr k 16 (by omega) (by omega) (by omega) (by omega)).trans ((p116bfr k 16 (by omega) (by omega) (by omega) (by omega)).trans (zxu (by omega) (p65bbbfr k 16 (by omega) (by omega) (by omega) (by omega) (by omega) (by omega) (by omega)))))) (fun e => ⟨zxu (by omega) ((p123bbbfr (k + 10) e (by omega) (by omega) (by omega) (by omega)).trans ((p116bfr (k + 10) e (by omega) (by omega) (by omega) (by omega)).trans (zxu (by omega) (p65bbbfr (k + 10) e (by omega) (by omega) (by omega) (by omega) (by omega) (by omega) (by omega))))), zxu (by omega) ((p123bbbfr (k + 11) e (by omega) (by omega) (by omega) (by omega)).trans ((p116bfr (k + 11) e (by omega) (by omega) (by omega) (by omega)).trans (zxu (by omega) (p65bbbfr (k + 11) e (by omega) (by omega) (by omega) (by omega) (by omega) (by omega) (by omega)))))⟩)
                             (fun w => ⟨zxu (by omega) ((p123bbbfr (k + 2) _ (by omega) (by omega) (by omega) (by omega)).trans ((p116bfr (k + 2) _ (by omega) (by omega) (by omega) (by omega)).trans (zxu (by omega) ((p65bbhst (by omega) w).1.trans (by omega))))), zxu (by omega) ((p123bbbfr (k + 3) _ (by omega) (by omega) (by omega) (by omega)).trans ((p116bfr (k + 3) _ (by omega) (by omega) (by omega) (by omega)).trans (zxu (by omega) (g65b (by omega) w))))⟩)
                             (fun w => zxu (by omega) ((p123bbbfr (k + 7) _ (by omega) (by omega) (by omega) (by omega)).trans ((p116bfr (k + 7) _ (by omega) (by omega) (by omega) (by omega)).trans (zxe' (by omega))))) (fun w i hi => ((p65bbhst (by omega) w).2.2.2.2 i hi).trans (by rw [e9]))
                             (fun w x j hx hj => zxu (by omega) ((p123bbbfr x j (by omega) (by omega) (by omega) (by omega)).trans ((p116bfr x j (by omega) (by omega) (by omega) (by omega)).trans (zxcj (by omega) (p65bbbfr x j (by omega) (by omega) (by omega) (by omega) (by omega) (by omega) (by omega)))))) (fun w j hj => zxu (by omega) ((p123bbbfr (k + 5) j (by omega) (by omega) (by omega) (by omega)).trans ((p116bfr (k + 5) j (by omega) (by omega) (by omega) (by omega)).trans (zxu (by omega) (p65bbbfr (k + 5) j (by omega) (by omega) (by omega) (by omega) (by omega) (by omega) (by omega)))))) (fun w j hj => zxu (by omega) ((p123bbbfr (k + 6) j (by omega) (by omega) (by omega) (by omega)).trans ((p116bfr (k + 6) j (by omega) (by omega) (by omega) (by omega)).trans (zxu (by omega) (p65bbbfr (k + 6) j (by omega) (by omega) (by omega) (by omega) (by omega) (by omega) (by omega)))))) (fun w j hj => zxu (by omega) ((p123bbbfr (k + 9) j (by omega) (by omega) (by omega) (by omega)).trans ((p116bfr (k + 9) j (by omega) (by omega) (by omega) (by omega)).trans (zxu (by omega) (p65bbbfr (k + 9) j (by omega) (by omega) (by omega) (by omega) (by omega) (by omega) (by omega)))))) (fun w j hj => p65bbbbfrL (k + 4) j (by omega))
                         | exact zVO_U hs hg (by omega) (hn0_ w65.1 (by omega)) zxe (zVK_fr y2.2 (fun x j h => zxcj (by omega) rfl)) (zxs (by omega) ((p123bbbfr k 16 (by omega) (by omega) (by omega) (by omega)).trans ((p116bfr k 16 (by omega) (by omega) (by omega) (by omega)).trans (p65bbbfr k 16 (by omega) (by omega) (by omega) (by omega) (by omega) (by omega) (by omega))))) (fun e => ⟨zxu (by omega) ((p123bbbfr (k + 10) e (by omega) (by omega) (by omega) (by omega)).trans ((p116bfr (k + 10) e (by omega) (by omega) (by omega) (by omega)).trans (p65bbbfr (k + 10) e (by omega) (by omega) (by omega) (by omega) (by omega) (by omega) (by omega)))), zxu (by omega) ((p123bbbfr (k + 11) e (by omega) (by omega) (by omega) (by omega)).trans ((p116bfr (k + 11) e (by omega) (by omega) (by omega) (by omega)).trans (p65bbbfr (k + 11) e (by omega) (by omega) (by omega) (by omega) (by omega) (by omega) (by omega))))⟩)
                             (fun w => by exfalso; omega) (fun w => by exfalso; omega) (fun w => by exfalso; omega) (fun w => by exfalso; omega) (fun w => by exfalso; omega) (fun w => by exfalso; omega) (fun w => by exfalso; omega) (fun w => by exfalso; omega))
                      | (have hx : tVz c n 1 (tKd c (tSk tBk c n (p_ + 1)) (tSk tSm c n (tSk tBk c n (p_ + 1)))).toNat (tSk tSm c n (tSk tBk c n (p_ + 1))) (tFv (tKd c (tSk tBk c n (p_ + 1)) (tSk tSm c n (tSk tBk c n (p_ + 1)))).toNat (tyx s)) = -1 := by
                           rw [tyB_8 hc em.2.1 (show (tKd c (tSk tBk c n (p_ + 1)) (tSk tSm c n (tSk tBk c n (p_ + 1)))) ≠ 9 by omega)] at h9
                           exact h9
                         have y2 := p162bhok hx
                         rw [tyB_v (show (tKd c (tSk tBk c n (p_ + 1)) (tSk tSm c n (tSk tBk c n (p_ + 1)))) ≠ 9 by omega) hx (fun w => absurd w (by decide))]
                         exact ⟨zVO_O (I1 := I162o) (L1 := L162o) hs hg (a_ := ((tKd c (tSk tBk c n (p_ + 1)) (tSk tSm c n (tSk tBk c n (p_ + 1)))).toNat)) (by omega) (by omega) (Nat.le_refl _) (zxs (by omega) zxe) (zxs (by omega) (zxs (by omega) (zxu (by omega) (zxu (by omega) ((p162bbfr k 22 (by omega) (by omega) (by omega) (by omega) (by omega)).trans ((p65bbbfr k 22 (by omega) (by omega) (by omega) (by omega) (by omega) (by omega) (by omega)).trans s22)))))) ((zxs (by omega) (zxs (by omega) (zxu (by omega) (zxu (by omega) ((p162bbfr k 16 (by omega) (by omega) (by omega) (by omega) (by omega)).trans ((p65bbbfr k 16 (by omega) (by omega) (by omega) (by omega) (by omega) (by omega) (by omega)).trans (s16 (hn0_ w65.1 (by omega))))))))).trans (tXx_f (by omega)).symm)
                             ⟨zxu (by omega) (zxu (by omega) (zxu (by omega) (zxe' (by omega)))), zxu (by omega) (zxu (by omega) ((zxe' (by omega)).trans (by omega)))⟩ (fun e he => ⟨zxu (by omega) (zxu (by omega) (zxu (by omega) (zxs (by omega) ((p162bbfr (k + 10) e (by omega) (by omega) (by omega) (by omega) (by omega)).trans (p65bbbfr (k + 10) e (by omega) (by omega) (by omega) (by omega) (by omega) (by omega) (by omega)))))), zxu (by omega) (zxu (by omega) (zxs (by omega) (zxu (by omega) ((p162bbfr (k + 11) e (by omega) (by omega) (by omega) (by omega) (by omega)).trans (p65bbbfr (k + 11) e (by omega) (by omega) (by omega) (by omega) (by omega) (by omega) (by omega))))))⟩)
                             (fun w => ⟨(p162bbfr (k + 2) _ (by omega) (by omega) (by omega) (by omega) (by omega)).trans ((p65bbhst (by omega) w).1.trans w65.2.1), (p162bbfr (k + 3) _ (by omega) (by omega) (by omega) (by omega) (by omega)).trans (g65b (by omega) w)⟩) (fun w _ => y2.2 w) (fun w i h1 h2 => (p162bbbfrL (k + 4) _ (by omega) (by omega)).trans (((p65bbhst (by omega) w).2.2.2.2 i h2).trans (by rw [w65.2.1]))) (fun w i h1 h2 => (p162bbfr (k + 5) _ (by omega) (by omega) (by omega) (by omega) (by omega)).trans ((p65bbhst (by omega) w).2.2.2.1 i h2))
                             (fun x j h1 h2 => zxu (by omega) (zxu (by omega) (zxu (by omega) (zxu (by omega) rfl)))) (fun j => rfl)
                             (fun w x j hx hj => (p162bbfr x j (by omega) (by omega) (by omega) (by omega) (by omega)).trans (p65bbbfr x j (by omega) (by omega) (by omega) (by omega) (by omega) (by omega) (by omega))) (fun w j hj => (p162bbfr (k + 5) j (by omega) (by omega) (by omega) (by omega) (by omega)).trans (p65bbbfr (k + 5) j (by omega) (by omega) (by omega) (by omega) (by omega) (by omega) (by omega))) (fun w j hj => (p162bbfr (k + 6) j (by omega) (by omega) (by omega) (by omega) (by omega)).trans (p65bbbfr (k + 6) j (by omega) (by omega) (by omega) (by omega) (by omega) (by omega) (by omega))) (fun w j hj => (p162bbfr (k + 9) j (by omega) (by omega) (by omega) (by omega) (by omega)).trans (p65bbbfr (k + 9) j (by omega) (by omega) (by omega) (by omega) (by omega) (by omega) (by omega))) (fun w j hj => (p162bbbfrL (k + 4) j (by omega) (by omega)).trans (p65bbbbfrL (k + 4) j (by omega))), y2.1, zxe.trans (show _ = ((tyd s + 1 : Nat) : Int) by omega)⟩)
                      | (have e0 : ((tKd c (tSk tBk c n (p_ + 1)) (tSk tSm c n (tSk tBk c n (p_ + 1)))).toNat) = 0 := by omega
                         have hx : tVz c n 1 (tKd c (tSk tBk c n (p_ + 1)) (tSk tSm c n (tSk tBk c n (p_ + 1)))).toNat (tSk tSm c n (tSk tBk c n (p_ + 1))) (tFv (tKd c (tSk tBk c n (p_ + 1)) (tSk tSm c n (tSk tBk c n (p_ + 1)))).toNat (tyx s)) = -1 := by
                           rw [tyB_8 hc em.2.1 (show (tKd c (tSk tBk c n (p_ + 1)) (tSk tSm c n (tSk tBk c n (p_ + 1)))) ≠ 9 by omega)] at h9
                           exact h9
                         rw [tyB_v (show (tKd c (tSk tBk c n (p_ + 1)) (tSk tSm c n (tSk tBk c n (p_ + 1)))) ≠ 9 by omega) hx (fun w => absurd w (by decide))]
                         have hx2 := hx
                         rw [e0, tFv_00] at hx2
                         rcases p150hg with w | w
                         · exfalso
                           rw [tVz_v.1 w.1] at hx2
                           omega
                         · rw [tVz_v.2.1 w.1] at hx2
                           have y2 := w.2.2 hx2
                           have ex : tXx c n 1 ((tKd c (tSk tBk c n (p_ + 1)) (tSk tSm c n (tSk tBk c n (p_ + 1)))).toNat) (tSk tSm c n (tSk tBk c n (p_ + 1))) (tFv (tKd c (tSk tBk c n (p_ + 1)) (tSk tSm c n (tSk tBk c n (p_ + 1)))).toNat (tyx s)) (tyx s) = tNv c n (tGe c n (tSk tSm c n (tSk tBk c n (p_ + 1))) 1) 0 := by
                             rw [e0, tFv_00]
                             exact tVz_v.2.2.2 _
                           have ep : tVp c n 1 (tKd c (tSk tBk c n (p_ + 1)) (tSk tSm c n (tSk tBk c n (p_ + 1)))).toNat (tSk tSm c n (tSk tBk c n (p_ + 1))) (tFv (tKd c (tSk tBk c n (p_ + 1)) (tSk tSm c n (tSk tBk c n (p_ + 1)))).toNat (tyx s)) = tNe c n (tGe c n (tSk tSm c n (tSk tBk c n (p_ + 1))) 1) 0 := by
                             rw [e0, tFv_00]
                             exact tVz_v.2.2.1
                           exact ⟨zVO_O (I1 := I150o) (L1 := L150o) hs hg (a_ := ((tKd c (tSk tBk c n (p_ + 1)) (tSk tSm c n (tSk tBk c n (p_ + 1)))).toNat)) (by omega) (by omega) (Nat.le_refl _) (zxs (by omega) zxe) (zxs (by omega) (zxs (by omega) (zxu (by omega) (zxu (by omega) ((p150bfr k 22 (by omega) (by omega)).trans ((p65bbbfr k 22 (by omega) (by omega) (by omega) (by omega) (by omega) (by omega) (by omega)).trans s22)))))) ((zxs (by omega) (zxs (by omega) (zxu (by omega) (zxu (by omega) y2.2.1)))).trans ex.symm)
                             ⟨zxu (by omega) (zxu (by omega) (zxu (by omega) (zxe' (by omega)))), zxu (by omega) (zxu (by omega) ((zxe' (by omega)).trans (by omega)))⟩ (fun e he => ⟨zxu (by omega) (zxu (by omega) (zxu (by omega) (zxs (by omega) ((p150bfr (k + 10) e (by omega) (by omega)).trans (p65bbbfr (k + 10) e (by omega) (by omega) (by omega) (by omega) (by omega) (by omega) (by omega)))))), zxu (by omega) (zxu (by omega) (zxs (by omega) (zxu (by omega) ((p150bfr (k + 11) e (by omega) (by omega)).trans (p65bbbfr (k + 11) e (by omega) (by omega) (by omega) (by omega) (by omega) (by omega) (by omega))))))⟩)
                             (fun w => ⟨(p150bfr (k + 2) _ (by omega) (by omega)).trans ((p65bbhst (by omega) w).1.trans w65.2.1), (p150bfr (k + 3) _ (by omega) (by omega)).trans (g65b (by omega) w)⟩) (fun w h => absurd e0 h) (fun w i h1 h2 => (p150bbfrL (k + 4) _ (by omega)).trans (((p65bbhst (by omega) w).2.2.2.2 i h2).trans (by rw [w65.2.1]))) (fun w i h1 h2 => (p150bfr (k + 5) _ (by omega) (by omega)).trans ((p65bbhst (by omega) w).2.2.2.1 i h2))
                             (fun x j h1 h2 => zxu (by omega) (zxu (by omega) (zxu (by omega) (zxu (by omega) rfl)))) (fun j => rfl)
                             (fun w x j hx hj => (p150bfr x j (by omega) (by omega)).trans (p65bbbfr x j (by omega) (by omega) (by omega) (by omega) (by omega) (by omega) (by omega))) (fun w j hj => (p150bfr (k + 5) j (by omega) (by omega)).trans (p65bbbfr (k + 5) j (by omega) (by omega) (by omega) (by omega) (by omega) (by omega) (by omega))) (fun w j hj => (p150bfr (k + 6) j (by omega) (by omega)).trans (p65bbbfr (k + 6) j (by omega) (by omega) (by omega) (by omega) (by omega) (by omega) (by omega))) (fun w j hj => (p150bfr (k + 9) j (by omega) (by omega)).trans (p65bbbfr (k + 9) j (by omega) (by omega) (by omega) (by omega) (by omega) (by omega) (by omega))) (fun w j hj => (p150bbfrL (k + 4) j (by omega)).trans (p65bbbbfrL (k + 4) j (by omega))), y2.1.trans (congrArg Nat.cast ep.symm), zxe.trans (show _ = ((tyd s + 1 : Nat) : Int) by omega)⟩)))
                | (exfalso; omega)
          · refine And.intro (zDX hD 0 rfl) (zrd (v := mk) ((p65bbbfr k 15 (by omega) (by omega) (by omega) (by omega) (by omega) (by omega) (by omega)).trans hmk) ?_)
            refine And.intro (by omega) ⟨fun h96 => ?_, fun h96 => ?_⟩
            · refine And.intro (zDX hD 0 rfl) ⟨_, sn_V_kep.up (by decide), ?_⟩
              refine ⟨_, _, _, mk, (tyn s), (p : Int), p_, (v80o : Int), (tSk tSm c n (tSk tBk c n (p_ + 1))), (tyk s), (p_ + 2000 - tyk s), 0, rfl, hD, (by first | exact (zRM_fr hX (fun c j h => ((p65bbbfr c j (by omega) (by omega) (by omega) (by omega) (by omega) (by omega) (by omega)).trans rfl))) | (clear hQ; grind [xu])), (by first | exact hc | (clear hQ; grind [xu])), ((p65bbbfr k 15 (by omega) (by omega) (by omega) (by omega) (by omega) (by omega) (by omega)).trans hmk), (by omega), ((p65bbbfr k 17 (by omega) (by omega) (by omega) (by omega) (by omega) (by omega) (by omega)).trans s17), (by omega), ⟨by omega, by have z := tSm_s hc w65.1.1; omega⟩, ⟨by omega, (tSm_s hc w65.1.1).2.1⟩, ((p65bbbfr k 22 (by omega) (by omega) (by omega) (by omega) (by omega) (by omega) (by omega)).trans s22), (by omega), (by omega), (fun e => by first | exact zxu (by omega) (p65bbhst (by omega) e).2.2.1 | exact (p65bbhst (by omega) e).2.2.1), (by omega), (Eq.trans (b := ((-1) : Int)) w65.2.2.1 (by omega)), ?_⟩
              intro I116o p116hg p116bfr
              refine And.intro (zDX hD 0 rfl) ⟨_, sn_V_psl.up (by decide), ?_⟩
              refine ⟨_, _, _, mk, (tyn s), (p_ + 2000 - tyk s), (tyd s), (tSk tSm c n (tSk tBk c n (p_ + 1))), p_, (tyk s), (v80o : Int), (d : Int), (I116o k 18), rfl, hD, (by first | exact (zRM_fr hX (fun c j h => ((p116bfr c j (by omega) (by omega) (by omega) (by omega)).trans ((p65bbbfr c j (by omega) (by omega) (by omega) (by omega) (by omega) (by omega) (by omega)).trans rfl)))) | (clear hQ; grind [xu])), (by first | exact hc | (clear hQ; grind [xu])), ((p116bfr k 15 (by omega) (by omega) (by omega) (by omega)).trans ((p65bbbfr k 15 (by omega) (by omega) (by omega) (by omega) (by omega) (by omega) (by omega)).trans hmk)), (by omega), ((p116bfr k 17 (by omega) (by omega) (by omega) (by omega)).trans ((p65bbbfr k 17 (by omega) (by omega) (by omega) (by omega) (by omega) (by omega) (by omega)).trans s17)), (by omega), ⟨by omega, (tSm_s hc w65.1.1).2.1⟩, (by omega), (by omega), (by have z := tSm_s hc w65.1.1; omega), (by omega), rfl, (by omega), (by
 rcases p116hg with w | w
 · exact Or.inl ⟨w.2.1, w.1, zVK_1 w.2.2.1 w.2.2.2⟩
 · exact Or.inr ⟨by omega, w.1, w.2⟩), ?_⟩
              intro v123o I123o p123hf p123bhok p123bbhvb p123bbbfr
              refine And.intro (zDX hD 0 rfl) (zrd (v := (tyn s)) ((p123bbbfr k 17 (by omega) (by omega) (by omega) (by omega)).trans ((p116bfr k 17 (by omega) (by omega) (by omega) (by omega)).trans ((p65bbbfr k 17 (by omega) (by omega) (by omega) (by omega) (by omega) (by omega) (by omega)).trans s17))) ?_)
              refine And.intro (zDX hD 0 rfl) ⟨_, (zWi (by omega)), ?_⟩
              refine hQ _ _ _ ?_ ?_ (by omega) (fun c j h0 h1 h2 h3 h4 h5 h6 h7 h8 h9 h10 h11 h12 h13 h14 h15 => (zxcj h1 ((p123bbbfr c j h2 h5 (fun w => h12 ⟨w.1, w.2.1⟩) (fun w => h13 ⟨w.1, w.2.1⟩)).trans ((p116bfr c j h2 h5 (fun w => h12 ⟨w.1, w.2.1⟩) (fun w => h13 ⟨w.1, w.2.1⟩)).trans ((p65bbbfr c j h2 h3 h4 (fun w => h7 ⟨w.1, w.2.1⟩) (fun w => h8 ⟨w.1, w.2.1⟩) (fun w => h12 ⟨w.1, w.2.1⟩) (fun w => h9 ⟨w.1, w.2.1⟩)).trans rfl))))) (fun c j h0 h1 => ((p65bbbbfrL c j (fun w => h1 ⟨w.1, w.2.1⟩)).trans rfl))
              · first
                | (rw [show tyL c n s p_ = tyF s p_ from if_pos (by omega)]
                   exact zxe.trans (show _ = ((p_ : Nat) : Int) by omega))
                | (rw [show tyL c n s p_ = tyG c n 1 s (tSk tBk c n (p_ + 1)) p_ (tyd s) from if_neg (by omega)]
                   first
                   | (rw [tyG_n w65.1]
                      exact w65.2.2)
                   | (rw [tyG_t w65.1, tyB_9 (show (tKd c (tSk tBk c n (p_ + 1)) (tSk tSm c n (tSk tBk c n (p_ + 1)))) = 9 by omega), tkX_1]
                      exact zxs (by omega) p123hf)
                   | (rw [tyG_t w65.1, tyB_8 hc (tSm_s hc w65.1.1).2.1 (show (tKd c (tSk tBk c n (p_ + 1)) (tSk tSm c n (tSk tBk c n (p_ + 1)))) ≠ 9 by omega)]
                      exact zxs (by omega) (zxs (by omega) (zxu (by omega) (zxu (by omega) p162hf))))
                   | (rw [tyG_t w65.1, tyB_8 hc (tSm_s hc w65.1.1).2.1 (show (tKd c (tSk tBk c n (p_ + 1)) (tSk tSm c n (tSk tBk c n (p_ + 1)))) ≠ 9 by omega)]
                      have e0 : ((tKd c (tSk tBk c n (p_ + 1)) (tSk tSm c n (tSk tBk c n (p_ + 1)))).toNat) = 0 := by omega
                      rw [e0, tFv_00]
                      rcases p150hg with w | w
                      · rw [tVz_v.1 w.1]
                        exact zxs (by omega) (zxs (by omega) (zxu (by omega) (zxu (by omega) w.2)))
                      · rw [tVz_v.2.1 w.1]
                        exact zxs (by omega) (zxs (by omega) (zxu (by omega) (zxu (by omega) w.2.1)))))
                | (exfalso; omega)
              · intro h9
                first
                | (exfalso
                   rw [show tyL c n s p_ = tyF s p_ from if_pos (by omega)] at h9
                   exact tyF_f h9)
                | (rw [show tyL c n s p_ = tyG c n 1 s (tSk tBk c n (p_ + 1)) p_ (tyd s) from if_neg (by omega)] at h9 ⊢
                   first
                   | (exfalso
                      rw [tyG_n w65.1] at h9
                      exact tyF_f h9)
                   | (rw [tyG_t w65.1] at h9 ⊢
                      have em := tSm_s hc w65.1.1
                      first
                      | (have hx : tuX c n (p_ + 2000 - tyk s) (tyd s) (tSk tSm c n (tSk tBk c n (p_ + 1))) = -1 := by
                           rw [tyB_9 (show (tKd c (tSk tBk c n (p_ + 1)) (tSk tSm c n (tSk tBk c n (p_ + 1)))) = 9 by omega), tkX_1] at h9
                           exact h9
                         have y2 := p123bhok hx
                         have eb := tuX_b hc hx
                         have e9 : v65o.toNat = 9 := by omega
                         rw [tyB_u (show (tKd c (tSk tBk c n (p_ + 1)) (tSk tSm c n (tSk tBk c n (p_ + 1)))) = 9 by omega) (tkX_1.trans hx), tkE_1]
                         refine ⟨?_, y2.1, zxs (by omega) ((p123bbbfr k 29 (by omega) (by omega) (by omega) (by omega)).trans ((p116bfr k 29 (by omega) (by omega) (by omega) (by omega)).trans (by first | exact zxu (by omega) ((p65bbbfr k 29 (by omega) (by omega) (by omega) (by omega) (by omega) (by omega) (by omega)).trans hdn) | exact (p65bbbfr k 29 (by omega) (by omega) (by omega) (by omega) (by omega) (by omega) (by omega)).trans hdn)))⟩
                         first
                         | exact zVO_U hs hg (by omega) (hn0_ w65.1 (by omega)) zxe (zVK_fr y2.2 (fun x j h => zxcj (by omega) rfl)) (zxs (by omega) ((p123bbbfr k 16 (by omega) (by omega) (by omega) (by omega)).trans ((p116bfr k 16 (by omega) (by omega) (by omega) (by omega)).trans (zxu (by omega) (p65bbbfr k 16 (by omega) (by omega) (by omega) (by omega) (by omega) (by omega) (by omega)))))) (fun e => ⟨zxu (by omega) ((p123bbbfr (k + 10) e (by omega) (by omega) (by omega) (by omega)).trans ((p116bfr (k + 10) e (by omega) (by omega) (by omega) (by omega)).trans (zxu (by omega) (p65bbbfr (k + 10) e (by omega) (by omega) (by omega) (by omega) (by omega) (by omega) (by omega))))), zxu (by omega) ((p123bbbfr (k + 11) e (by omega) (by omega) (by omega) (by omega)).trans ((p116bfr (k + 11) e (by omega) (by omega) (by omega) (by omega)).trans (zxu (by omega) (p65bbbfr (k + 11) e (by omega) (by omega) (by omega) (by omega) (by omega) (by omega) (by omega)))))⟩)
                             (fun w => ⟨zxu (by omega) ((p123bbbfr (k + 2) _ (by omega) (by omega) (by omega) (by omega)).trans ((p116bfr (k + 2) _ (by omega) (by omega) (by omega) (by omega)).trans (zxu (by omega) ((p65bbhst (by omega) w).1.trans (by omega))))), zxu (by omega) ((p123bbbfr (k + 3) _ (by omega) (by omega) (by omega) (by omega)).trans ((p116bfr (k + 3) _ (by omega) (by omega) (by omega) (by omega)).trans (zxu (by omega) (g65b (by omega) w))))⟩)
                             (fun w => zxu (by omega) ((p123bbbfr (k + 7) _ (by omega) (by omega) (by omega) (by omega)).trans ((p116bfr (k + 7) _ (by omega) (by omega) (by omega) (by omega)).trans (zxe' (by omega))))) (fun w i hi => ((p65bbhst (by omega) w).2.2.2.2 i hi).trans (by rw [e9]))
                             (fun w x j hx hj => zxu (by omega) ((p123bbbfr x j (by omega) (by omega) (by omega) (by omega)).trans ((p116bfr x j (by omega) (by omega) (by omega) (by omega)).trans (zxcj (by omega) (p65bbbfr x j (by omega) (by omega) (by omega) (by omega) (by omega) (by omega) (by omega)))))) (fun w j hj => zxu (by omega) ((p123bbbfr (k + 5) j (by omega) (by omega) (by omega) (by omega)).trans ((p116bfr (k + 5) j (by omega) (by omega) (by omega) (by omega)).trans (zxu (by omega) (p65bbbfr (k + 5) j (by omega) (by omega) (by omega) (by omega) (by omega) (by omega) (by omega)))))) (fun w j hj => zxu (by omega) ((p123bbbfr (k + 6) j (by omega) (by omega) (by omega) (by omega)).trans ((p116bfr (k + 6) j (by omega) (by omega) (by omega) (by omega)).trans (zxu (by omega) (p65bbbfr (k + 6) j (by omega) (by omega) (by omega) (by omega) (by omega) (by omega) (by omega)))))) (fun w j hj => zxu (by omega) ((p123bbbfr (k + 9) j (by omega) (by omega) (by omega) (by omega)).trans ((p116bfr (k + 9) j (by omega) (by omega) (by omega) (by omega)).trans (zxu (by omega) (p65bbbfr (k + 9) j (by omega) (by omega) (by omega) (by omega) (by omega) (by omega) (by omega)))))) (fun w j hj => p65bbbbfrL (k + 4) j (by omega))
                         | exact zVO_U hs hg (by omega) (hn0_ w65.1 (by omega)) zxe (zVK_fr y2.2 (fun x j h => zxcj (by omega) rfl)) (zxs (by omega) ((p123bbbfr k 16 (by omega) (by omega) (by omega) (by omega)).trans ((p116bfr k 16 (by omega) (by omega) (by omega) (by omega)).trans (p65bbbfr k 16 (by omega) (by omega) (by omega) (by omega) (by omega) (by omega) (by omega))))) (fun e => ⟨zxu (by omega) ((p123bbbfr (k + 10) e (by omega) (by omega) (by omega) (by omega)).trans ((p116bfr (k + 10) e (by omega) (by omega) (by omega) (by omega)).trans (p65bbbfr (k + 10) e (by omega) (by omega) (by omega) (by omega) (by omega) (by omega) (by omega)))), zxu (by omega) ((p123bbbfr (k + 11) e (by omega) (by omega) (by omega) (by omega)).trans ((p116bfr (k + 11) e (by omega) (by omega) (by omega) (by omega)).trans (p65bbbfr (k + 11) e (by omega) (by omega) (by omega) (by omega) (by omega) (by omega) (by omega))))⟩)
                             (fun w => by exfalso; omega) (fun w => by exfalso; omega) (fun w => by exfalso; omega) (fun w => by exfalso; omega) (fun w => by exfalso; omega) (fun w => by exfalso; omega) (fun w => by exfalso; omega) (fun w => by exfalso; omega))
                      | (have hx : tVz c n 1 (tKd c (tSk tBk c n (p_ + 1)) (tSk tSm c n (tSk tBk c n (p_ + 1)))).toNat (tSk tSm c n (tSk tBk c n (p_ + 1))) (tFv (tKd c (tSk tBk c n (p_ + 1)) (tSk tSm c n (tSk tBk c n (p_ + 1)))).toNat (tyx s)) = -1 := by
                           rw [tyB_8 hc em.2.1 (show (tKd c (tSk tBk c n (p_ + 1)) (tSk tSm c n (tSk tBk c n (p_ + 1)))) ≠ 9 by omega)] at h9
                           exact h9
                         have y2 := p162bhok hx
                         rw [tyB_v (show (tKd c (tSk tBk c n (p_ + 1)) (tSk tSm c n (tSk tBk c n (p_ + 1)))) ≠ 9 by omega) hx (fun w => absurd w (by decide))]
                         exact ⟨zVO_O (I1 := I162o) (L1 := L162o) hs hg (a_ := ((tKd c (tSk tBk c n (p_ + 1)) (tSk tSm c n (tSk tBk c n (p_ + 1)))).toNat)) (by omega) (by omega) (Nat.le_refl _) (zxs (by omega) zxe) (zxs (by omega) (zxs (by omega) (zxu (by omega) (zxu (by omega) ((p162bbfr k 22 (by omega) (by omega) (by omega) (by omega) (by omega)).trans ((p65bbbfr k 22 (by omega) (by omega) (by omega) (by omega) (by omega) (by omega) (by omega)).trans s22)))))) ((zxs (by omega) (zxs (by omega) (zxu (by omega) (zxu (by omega) ((p162bbfr k 16 (by omega) (by omega) (by omega) (by omega) (by omega)).trans ((p65bbbfr k 16 (by omega) (by omega) (by omega) (by omega) (by omega) (by omega) (by omega)).trans (s16 (hn0_ w65.1 (by omega))))))))).trans (tXx_f (by omega)).symm)
                             ⟨zxu (by omega) (zxu (by omega) (zxu (by omega) (zxe' (by omega)))), zxu (by omega) (zxu (by omega) ((zxe' (by omega)).trans (by omega)))⟩ (fun e he => ⟨zxu (by omega) (zxu (by omega) (zxu (by omega) (zxs (by omega) ((p162bbfr (k + 10) e (by omega) (by omega) (by omega) (by omega) (by omega)).trans (p65bbbfr (k + 10) e (by omega) (by omega) (by omega) (by omega) (by omega) (by omega) (by omega)))))), zxu (by omega) (zxu (by omega) (zxs (by omega) (zxu (by omega) ((p162bbfr (k + 11) e (by omega) (by omega) (by omega) (by omega) (by omega)).trans (p65bbbfr (k + 11) e (by omega) (by omega) (by omega) (by omega) (by omega) (by omega) (by omega))))))⟩)
                             (fun w => ⟨(p162bbfr (k + 2) _ (by omega) (by omega) (by omega) (by omega) (by omega)).trans ((p65bbhst (by omega) w).1.trans w65.2.1), (p162bbfr (k + 3) _ (by omega) (by omega) (by omega) (by omega) (by omega)).trans (g65b (by omega) w)⟩) (fun w _ => y2.2 w) (fun w i h1 h2 => (p162bbbfrL (k + 4) _ (by omega) (by omega)).trans (((p65bbhst (by omega) w).2.2.2.2 i h2).trans (by rw [w65.2.1]))) (fun w i h1 h2 => (p162bbfr (k + 5) _ (by omega) (by omega) (by omega) (by omega) (by omega)).trans ((p65bbhst (by omega) w).2.2.2.1 i h2))
                             (fun x j h1 h2 => zxu (by omega) (zxu (by omega) (zxu (by omega) (zxu (by omega) rfl)))) (fun j => rfl)
                             (fun w x j hx hj => (p162bbfr x j (by omega) (by omega) (by omega) (by omega) (by omega)).trans (p65bbbfr x j (by omega) (by omega) (by omega) (by omega) (by omega) (by omega) (by omega))) (fun w j hj => (p162bbfr (k + 5) j (by omega) (by omega) (by omega) (by omega) (by omega)).trans (p65bbbfr (k + 5) j (by omega) (by omega) (by omega) (by omega) (by omega) (by omega) (by omega))) (fun w j hj => (p162bbfr (k + 6) j (by omega) (by omega) (by omega) (by omega) (by omega)).trans (p65bbbfr (k + 6) j (by omega) (by omega) (by omega) (by omega) (by omega) (by omega) (by omega))) (fun w j hj => (p162bbfr (k + 9) j (by omega) (by omega) (by omega) (by omega) (by omega)).trans (p65bbbfr (k + 9) j (by omega) (by omega) (by omega) (by omega) (by omega) (by omega) (by omega))) (fun w j hj => (p162bbbfrL (k + 4) j (by omega) (by omega)).trans (p65bbbbfrL (k + 4) j (by omega))), y2.1, zxe.trans (show _ = ((tyd s + 1 : Nat) : Int) by omega)⟩)
                      | (have e0 : ((tKd c (tSk tBk c n (p_ + 1)) (tSk tSm c n (tSk tBk c n (p_ + 1)))).toNat) = 0 := by omega
                         have hx : tVz c n 1 (tKd c (tSk tBk c n (p_ + 1)) (tSk tSm c n (tSk tBk c n (p_ + 1)))).toNat (tSk tSm c n (tSk tBk c n (p_ + 1))) (tFv (tKd c (tSk tBk c n (p_ + 1)) (tSk tSm c n (tSk tBk c n (p_ + 1)))).toNat (tyx s)) = -1 := by
                           rw [tyB_8 hc em.2.1 (show (tKd c (tSk tBk c n (p_ + 1)) (tSk tSm c n (tSk tBk c n (p_ + 1)))) ≠ 9 by omega)] at h9
                           exact h9
                         rw [tyB_v (show (tKd c (tSk tBk c n (p_ + 1)) (tSk tSm c n (tSk tBk c n (p_ + 1)))) ≠ 9 by omega) hx (fun w => absurd w (by decide))]
                         have hx2 := hx
                         rw [e0, tFv_00] at hx2
                         rcases p150hg with w | w
                         · exfalso
                           rw [tVz_v.1 w.1] at hx2
                           omega
                         · rw [tVz_v.2.1 w.1] at hx2
                           have y2 := w.2.2 hx2
                           have ex : tXx c n 1 ((tKd c (tSk tBk c n (p_ + 1)) (tSk tSm c n (tSk tBk c n (p_ + 1)))).toNat) (tSk tSm c n (tSk tBk c n (p_ + 1))) (tFv (tKd c (tSk tBk c n (p_ + 1)) (tSk tSm c n (tSk tBk c n (p_ + 1)))).toNat (tyx s)) (tyx s) = tNv c n (tGe c n (tSk tSm c n (tSk tBk c n (p_ + 1))) 1) 0 := by
                             rw [e0, tFv_00]
                             exact tVz_v.2.2.2 _
                           have ep : tVp c n 1 (tKd c (tSk tBk c n (p_ + 1)) (tSk tSm c n (tSk tBk c n (p_ + 1)))).toNat (tSk tSm c n (tSk tBk c n (p_ + 1))) (tFv (tKd c (tSk tBk c n (p_ + 1)) (tSk tSm c n (tSk tBk c n (p_ + 1)))).toNat (tyx s)) = tNe c n (tGe c n (tSk tSm c n (tSk tBk c n (p_ + 1))) 1) 0 := by
                             rw [e0, tFv_00]
                             exact tVz_v.2.2.1
                           exact ⟨zVO_O (I1 := I150o) (L1 := L150o) hs hg (a_ := ((tKd c (tSk tBk c n (p_ + 1)) (tSk tSm c n (tSk tBk c n (p_ + 1)))).toNat)) (by omega) (by omega) (Nat.le_refl _) (zxs (by omega) zxe) (zxs (by omega) (zxs (by omega) (zxu (by omega) (zxu (by omega) ((p150bfr k 22 (by omega) (by omega)).trans ((p65bbbfr k 22 (by omega) (by omega) (by omega) (by omega) (by omega) (by omega) (by omega)).trans s22)))))) ((zxs (by omega) (zxs (by omega) (zxu (by omega) (zxu (by omega) y2.2.1)))).trans ex.symm)
                             ⟨zxu (by omega) (zxu (by omega) (zxu (by omega) (zxe' (by omega)))), zxu (by omega) (zxu (by omega) ((zxe' (by omega)).trans (by omega)))⟩ (fun e he => ⟨zxu (by omega) (zxu (by omega) (zxu (by omega) (zxs (by omega) ((p150bfr (k + 10) e (by omega) (by omega)).trans (p65bbbfr (k + 10) e (by omega) (by omega) (by omega) (by omega) (by omega) (by omega) (by omega)))))), zxu (by omega) (zxu (by omega) (zxs (by omega) (zxu (by omega) ((p150bfr (k + 11) e (by omega) (by omega)).trans (p65bbbfr (k + 11) e (by omega) (by omega) (by omega) (by omega) (by omega) (by omega) (by omega))))))⟩)
                             (fun w => ⟨(p150bfr (k + 2) _ (by omega) (by omega)).trans ((p65bbhst (by omega) w).1.trans w65.2.1), (p150bfr (k + 3) _ (by omega) (by omega)).trans (g65b (by omega) w)⟩) (fun w h => absurd e0 h) (fun w i h1 h2 => (p150bbfrL (k + 4) _ (by omega)).trans (((p65bbhst (by omega) w).2.2.2.2 i h2).trans (by rw [w65.2.1]))) (fun w i h1 h2 => (p150bfr (k + 5) _ (by omega) (by omega)).trans ((p65bbhst (by omega) w).2.2.2.1 i h2))
                             (fun x j h1 h2 => zxu (by omega) (zxu (by omega) (zxu (by omega) (zxu (by omega) rfl)))) (fun j => rfl)
                             (fun w x j hx hj => (p150bfr x j (by omega) (by omega)).trans (p65bbbfr x j (by omega) (by omega) (by omega) (by omega) (by omega) (by omega) (by omega))) (fun w j hj => (p150bfr (k + 5) j (by omega) (by omega)).trans (p65bbbfr (k + 5) j (by omega) (by omega) (by omega) (by omega) (by omega) (by omega) (by omega))) (fun w j hj => (p150bfr (k + 6) j (by omega) (by omega)).trans (p65bbbfr (k + 6) j (by omega) (by omega) (by omega) (by omega) (by omega) (by omega) (by omega))) (fun w j hj => (p150bfr (k + 9) j (by omega) (by omega)).trans (p65bbbfr (k + 9) j (by omega) (by omega) (by omega) (by omega) (by omega) (by omega) (by omega))) (fun w j hj => (p150bbfrL (k + 4) j (by omega)).trans (p65bbbbfrL (k + 4) j (by omega))), y2.1.trans (congrArg Nat.cast ep.symm), zxe.trans (show _ = ((tyd s + 1 : Nat) : Int) by omega)⟩)))
                | (exfalso; omega)
            · have t96 : mk = 1 := (by omega)
              refine And.intro (zDX hD 0 rfl) (zrdR (v := some (k + 7)) (zDR hD 6 rfl) ?_)
              refine And.intro (zDX hD 0 rfl) (zrd (v := (tyn s)) ((p65bbbfr k 17 (by omega) (by omega) (by omega) (by omega) (by omega) (by omega) (by omega)).trans s17) ?_)
              refine And.intro (zDX hD 0 rfl) (zrd (v := (tyk s)) ((p65bbbfr k 22 (by omega) (by omega) (by omega) (by omega) (by omega) (by omega) (by omega)).trans s22) ?_)
              refine And.intro ⟨(by show 40 ≤ _; omega), (zDP hD 7 rfl rfl (by omega) (by omega))⟩ ⟨_, (zWi (by omega)), ?_⟩
              refine And.intro (zDX hD 0 rfl) ⟨_, sn_V_kep.up (by decide), ?_⟩
              refine ⟨_, _, _, mk, (tyn s), (p : Int), p_, (v80o : Int), (tSk tSm c n (tSk tBk c n (p_ + 1))), (tyk s), (p_ + 2000 - tyk s), 0, rfl, hD, (by first | exact (zRM_fr hX (fun c j h => (zxcj (by omega) ((p65bbbfr c j (by omega) (by omega) (by omega) (by omega) (by omega) (by omega) (by omega)).trans rfl)))) | (clear hQ; grind [xu])), (by first | exact hc | (clear hQ; grind [xu])), (zxu (by omega) ((p65bbbfr k 15 (by omega) (by omega) (by omega) (by omega) (by omega) (by omega) (by omega)).trans hmk)), (by omega), (zxu (by omega) ((p65bbbfr k 17 (by omega) (by omega) (by omega) (by omega) (by omega) (by omega) (by omega)).trans s17)), (by omega), ⟨by omega, by have z := tSm_s hc w65.1.1; omega⟩, ⟨by omega, (tSm_s hc w65.1.1).2.1⟩, (zxu (by omega) ((p65bbbfr k 22 (by omega) (by omega) (by omega) (by omega) (by omega) (by omega) (by omega)).trans s22)), (by omega), (by omega), (fun e => by first | exact zxu (by omega) (p65bbhst (by omega) e).2.2.1 | exact (p65bbhst (by omega) e).2.2.1), (by omega), (Eq.trans (b := ((-1) : Int)) (zxu (by omega) w65.2.2.1) (by omega)), ?_⟩
              intro I116o p116hg p116bfr
              refine And.intro (zDX hD 0 rfl) ⟨_, sn_V_psl.up (by decide), ?_⟩
              refine ⟨_, _, _, mk, (tyn s), (p_ + 2000 - tyk s), (tyd s), (tSk tSm c n (tSk tBk c n (p_ + 1))), p_, (tyk s), (v80o : Int), (d : Int), (I116o k 18), rfl, hD, (by first | exact (zRM_fr hX (fun c j h => ((p116bfr c j (by omega) (by omega) (by omega) (by omega)).trans (zxcj (by omega) ((p65bbbfr c j (by omega) (by omega) (by omega) (by omega) (by omega) (by omega) (by omega)).trans rfl))))) | (clear hQ; grind [xu])), (by first | exact hc | (clear hQ; grind [xu])), ((p116bfr k 15 (by omega) (by omega) (by omega) (by omega)).trans (zxu (by omega) ((p65bbbfr k 15 (by omega) (by omega) (by omega) (by omega) (by omega) (by omega) (by omega)).trans hmk))), (by omega), ((p116bfr k 17 (by omega) (by omega) (by omega) (by omega)).trans (zxu (by omega) ((p65bbbfr k 17 (by omega) (by omega) (by omega) (by omega) (by omega) (by omega) (by omega)).trans s17))), (by omega), ⟨by omega, (tSm_s hc w65.1.1).2.1⟩, (by omega), (by omega), (by have z := tSm_s hc w65.1.1; omega), (by omega), rfl, (by omega), (by
 rcases p116hg with w | w
 · exact Or.inl ⟨w.2.1, w.1, zVK_1 w.2.2.1 w.2.2.2⟩
 · exact Or.inr ⟨by omega, w.1, w.2⟩), ?_⟩
              intro v123o I123o p123hf p123bhok p123bbhvb p123bbbfr
              refine And.intro (zDX hD 0 rfl) (zrd (v := (tyn s)) ((p123bbbfr k 17 (by omega) (by omega) (by omega) (by omega)).trans ((p116bfr k 17 (by omega) (by omega) (by omega) (by omega)).trans (zxu (by omega) ((p65bbbfr k 17 (by omega) (by omega) (by omega) (by omega) (by omega) (by omega) (by omega)).trans s17)))) ?_)
              refine And.intro (zDX hD 0 rfl) ⟨_, (zWi (by omega)), ?_⟩
              refine hQ _ _ _ ?_ ?_ (by omega) (fun c j h0 h1 h2 h3 h4 h5 h6 h7 h8 h9 h10 h11 h12 h13 h14 h15 => (zxcj h1 ((p123bbbfr c j h2 h5 (fun w => h12 ⟨w.1, w.2.1⟩) (fun w => h13 ⟨w.1, w.2.1⟩)).trans ((p116bfr c j h2 h5 (fun w => h12 ⟨w.1, w.2.1⟩) (fun w => h13 ⟨w.1, w.2.1⟩)).trans (zxcj (fun w => h11 ⟨w.1, by omega⟩) ((p65bbbfr c j h2 h3 h4 (fun w => h7 ⟨w.1, w.2.1⟩) (fun w => h8 ⟨w.1, w.2.1⟩) (fun w => h12 ⟨w.1, w.2.1⟩) (fun w => h9 ⟨w.1, w.2.1⟩)).trans rfl)))))) (fun c j h0 h1 => ((p65bbbbfrL c j (fun w => h1 ⟨w.1, w.2.1⟩)).trans rfl))
              · first
                | (rw [show tyL c n s p_ = tyF s p_ from if_pos (by omega)]
                   exact zxe.trans (show _ = ((p_ : Nat) : Int) by omega))
                | (rw [show tyL c n s p_ = tyG c n 1 s (tSk tBk c n (p_ + 1)) p_ (tyd s) from if_neg (by omega)]
                   first
                   | (rw [tyG_n w65.1]
                      exact w65.2.2)
                   | (rw [tyG_t w65.1, tyB_9 (show (tKd c (tSk tBk c n (p_ + 1)) (tSk tSm c n (tSk tBk c n (p_ + 1)))) = 9 by omega), tkX_1]
                      exact zxs (by omega) p123hf)
                   | (rw [tyG_t w65.1, tyB_8 hc (tSm_s hc w65.1.1).2.1 (show (tKd c (tSk tBk c n (p_ + 1)) (tSk tSm c n (tSk tBk c n (p_ + 1)))) ≠ 9 by omega)]
                      exact zxs (by omega) (zxs (by omega) (zxu (by omega) (zxu (by omega) p162hf))))
                   | (rw [tyG_t w65.1, tyB_8 hc (tSm_s hc w65.1.1).2.1 (show (tKd c (tSk tBk c n (p_ + 1)) (tSk tSm c n (tSk tBk c n (p_ + 1)))) ≠ 9 by omega)]
                      have e0 : ((tKd c (tSk tBk c n (p_ + 1)) (tSk tSm c n (tSk tBk c n (p_ + 1)))).toNat) = 0 := by omega
                      rw [e0, tFv_00]
                      rcases p150hg with w | w
                      · rw [tVz_v.1 w.1]
                        exact zxs (by omega) (zxs (by omega) (zxu (by omega) (zxu (by omega) w.2)))
                      · rw [tVz_v.2.1 w.1]
                        exact zxs (by omega) (zxs (by omega) (zxu (by omega) (zxu (by omega) w.2.1)))))
                | (exfalso; omega)
              · intro h9
                first
                | (exfalso
                   rw [show tyL c n s p_ = tyF s p_ from if_pos (by omega)] at h9
                   exact tyF_f h9)
                | (rw [show tyL c n s p_ = tyG c n 1 s (tSk tBk c n (p_ + 1)) p_ (tyd s) from if_neg (by omega)] at h9 ⊢
                   first
                   | (exfalso
                      rw [tyG_n w65.1] at h9
                      exact tyF_f h9)
                   | (rw [tyG_t w65.1] at h9 ⊢
                      have em := tSm_s hc w65.1.1
                      first
                      | (have hx : tuX c n (p_ + 2000 - tyk s) (tyd s) (tSk tSm c n (tSk tBk c n (p_ + 1))) = -1 := by
                           rw [tyB_9 (show (tKd c (tSk tBk c n (p_ + 1)) (tSk tSm c n (tSk tBk c n (p_ + 1)))) = 9 by omega), tkX_1] at h9
                           exact h9
                         have y2 := p123bhok hx
                         have eb := tuX_b hc hx
                         have e9 : v65o.toNat = 9 := by omega
                         rw [tyB_u (show (tKd c (tSk tBk c n (p_ + 1)) (tSk tSm c n (tSk tBk c n (p_ + 1)))) = 9 by omega) (tkX_1.trans hx), tkE_1]
                         refine ⟨?_, y2.1, zxs (by omega) ((p123bbbfr k 29 (by omega) (by omega) (by omega) (by omega)).trans ((p116bfr k 29 (by omega) (by omega) (by omega) (by omega)).trans (by first | exact zxu (by omega) ((p65bbbfr k 29 (by omega) (by omega) (by omega) (by omega) (by omega) (by omega) (by omega)).trans hdn) | exact (p65bbbfr k 29 (by omega) (by omega) (by omega) (by omega) (by omega) (by omega) (by omega)).trans hdn)))⟩
                         first
                         | exact zVO_U hs hg (by omega) (hn0_ w65.1 (by omega)) zxe (zVK_fr y2.2 (fun x j h => zxcj (by omega) rfl)) (zxs (by omega) ((p123bbbfr k 16 (by omega) (by omega) (by omega) (by omega)).trans ((p116bfr k 16 (by omega) (by omega) (by omega) (by omega)).trans (zxu (by omega) (p65bbbfr k 16 (by omega) (by omega) (by omega) (by omega) (by omega) (by omega) (by omega)))))) (fun e => ⟨zxu (by omega) ((p123bbbfr (k + 10) e (by omega) (by omega) (by omega) (by omega)).trans ((p116bfr (k + 10) e (by omega) (by omega) (by omega) (by omega)).trans (zxu (by omega) (p65bbbfr (k + 10) e (by omega) (by omega) (by omega) (by omega) (by omega) (by omega) (by omega))))), zxu (by omega) ((p123bbbfr (k + 11) e (by omega) (by omega) (by omega) (by omega)).trans ((p116bfr (k + 11) e (by omega) (by omega) (by omega) (by omega)).trans (zxu (by omega) (p65bbbfr (k + 11) e (by omega) (by omega) (by omega) (by omega) (by omega) (by omega) (by omega)))))⟩)
                             (fun w => ⟨zxu (by omega) ((p123bbbfr (k + 2) _ (by omega) (by omega) (by omega) (by omega)).trans ((p116bfr (k + 2) _ (by omega) (by omega) (by omega) (by omega)).trans (zxu (by omega) ((p65bbhst (by omega) w).1.trans (by omega))))), zxu (by omega) ((p123bbbfr (k + 3) _ (by omega) (by omega) (by omega) (by omega)).trans ((p116bfr (k + 3) _ (by omega) (by omega) (by omega) (by omega)).trans (zxu (by omega) (g65b (by omega) w))))⟩)
                             (fun w => zxu (by omega) ((p123bbbfr (k + 7) _ (by omega) (by omega) (by omega) (by omega)).trans ((p116bfr (k + 7) _ (by omega) (by omega) (by omega) (by omega)).trans (zxe' (by omega))))) (fun w i hi => ((p65bbhst (by omega) w).2.2.2.2 i hi).trans (by rw [e9]))
                             (fun w x j hx hj => zxu (by omega) ((p123bbbfr x j (by omega) (by omega) (by omega) (by omega)).trans ((p116bfr x j (by omega) (by omega) (by omega) (by omega)).trans (zxcj (by omega) (p65bbbfr x j (by omega) (by omega) (by omega) (by omega) (by omega) (by omega) (by omega)))))) (fun w j hj => zxu (by omega) ((p123bbbfr (k + 5) j (by omega) (by omega) (by omega) (by omega)).trans ((p116bfr (k + 5) j (by omega) (by omega) (by omega) (by omega)).trans (zxu (by omega) (p65bbbfr (k + 5) j (by omega) (by omega) (by omega) (by omega) (by omega) (by omega) (by omega)))))) (fun w j hj => zxu (by omega) ((p123bbbfr (k + 6) j (by omega) (by omega) (by omega) (by omega)).trans ((p116bfr (k + 6) j (by omega) (by omega) (by omega) (by omega)).trans (zxu (by omega) (p65bbbfr (k + 6) j (by omega) (by omega) (by omega) (by omega) (by omega) (by omega) (by omega)))))) (fun w j hj => zxu (by omega) ((p123bbbfr (k + 9) j (by omega) (by omega) (by omega) (by omega)).trans ((p116bfr (k + 9) j (by omega) (by omega) (by omega) (by omega)).trans (zxu (by omega) (p65bbbfr (k + 9) j (by omega) (by omega) (by omega) (by omega) (by omega) (by omega) (by omega)))))) (fun w j hj => p65bbbbfrL (k + 4) j (by omega))
                         | exact zVO_U hs hg (by omega) (hn0_ w65.1 (by omega)) zxe (zVK_fr y2.2 (fun x j h => zxcj (by omega) rfl)) (zxs (by omega) ((p123bbbfr k 16 (by omega) (by omega) (by omega) (by omega)).trans ((p116bfr k 16 (by omega) (by omega) (by omega) (by omega)).trans (p65bbbfr k 16 (by omega) (by omega) (by omega) (by omega) (by omega) (by omega) (by omega))))) (fun e => ⟨zxu (by omega) ((p123bbbfr (k + 10) e (by omega) (by omega) (by omega) (by omega)).trans ((p116bfr (k + 10) e (by omega) (by omega) (by omega) (by omega)).trans (p65bbbfr (k + 10) e (by omega) (by omega) (by omega) (by omega) (by omega) (by omega) (by omega)))), zxu (by omega) ((p123bbbfr (k + 11) e (by omega) (by omega) (by omega) (by omega)).trans ((p116bfr (k + 11) e (by omega) (by omega) (by omega) (by omega)).trans (p65bbbfr (k + 11) e (by omega) (by omega) (by omega) (by omega) (by omega) (by omega) (by omega))))⟩)
                             (fun w => by exfalso; omega) (fun w => by exfalso; omega) (fun w => by exfalso; omega) (fun w => by exfalso; omega) (fun w => by exfalso; omega) (fun w => by exfalso; omega) (fun w => by exfalso; omega) (fun w => by exfalso; omega))
                      | (have hx : tVz c n 1 (tKd c (tSk tBk c n (p_ + 1)) (tSk tSm c n (tSk tBk c n (p_ + 1)))).toNat (tSk tSm c n (tSk tBk c n (p_ + 1))) (tFv (tKd c (tSk tBk c n (p_ + 1)) (tSk tSm c n (tSk tBk c n (p_ + 1)))).toNat (tyx s)) = -1 := by
                           rw [tyB_8 hc em.2.1 (show (tKd c (tSk tBk c n (p_ + 1)) (tSk tSm c n (tSk tBk c n (p_ + 1)))) ≠ 9 by omega)] at h9
                           exact h9
                         have y2 := p162bhok hx
                         rw [tyB_v (show (tKd c (tSk tBk c n (p_ + 1)) (tSk tSm c n (tSk tBk c n (p_ + 1)))) ≠ 9 by omega) hx (fun w => absurd w (by decide))]
                         exact ⟨zVO_O (I1 := I162o) (L1 := L162o) hs hg (a_ := ((tKd c (tSk tBk c n (p_ + 1)) (tSk tSm c n (tSk tBk c n (p_ + 1)))).toNat)) (by omega) (by omega) (Nat.le_refl _) (zxs (by omega) zxe) (zxs (by omega) (zxs (by omega) (zxu (by omega) (zxu (by omega) ((p162bbfr k 22 (by omega) (by omega) (by omega) (by omega) (by omega)).trans ((p65bbbfr k 22 (by omega) (by omega) (by omega) (by omega) (by omega) (by omega) (by omega)).trans s22)))))) ((zxs (by omega) (zxs (by omega) (zxu (by omega) (zxu (by omega) ((p162bbfr k 16 (by omega) (by omega) (by omega) (by omega) (by omega)).trans ((p65bbbfr k 16 (by omega) (by omega) (by omega) (by omega) (by omega) (by omega) (by omega)).trans (s16 (hn0_ w65.1 (by omega))))))))).trans (tXx_f (by omega)).symm)
                             ⟨zxu (by omega) (zxu (by omega) (zxu (by omega) (zxe' (by omega)))), zxu (by omega) (zxu (by omega) ((zxe' (by omega)).trans (by omega)))⟩ (fun e he => ⟨zxu (by omega) (zxu (by omega) (zxu (by omega) (zxs (by omega) ((p162bbfr (k + 10) e (by omega) (by omega) (by omega) (by omega) (by omega)).trans (p65bbbfr (k + 10) e (by omega) (by omega) (by omega) (by omega) (by omega) (by omega) (by omega)))))), zxu (by omega) (zxu (by omega) (zxs (by omega) (zxu (by omega) ((p162bbfr (k + 11) e (by omega) (by omega) (by omega) (by omega) (by omega)).trans (p65bbbfr (k + 11) e (by omega) (by omega) (by omega) (by omega) (by omega) (by omega) (by omega))))))⟩)
                             (fun w => ⟨(p162bbfr (k + 2) _ (by omega) (by omega) (by omega) (by omega) (by omega)).trans ((p65bbhst (by omega) w).1.trans w65.2.1), (p162bbfr (k + 3) _ (by omega) (by omega) (by omega) (by omega) (by omega)).trans (g65b (by omega) w)⟩) (fun w _ => y2.2 w) (fun w i h1 h2 => (p162bbbfrL (k + 4) _ (by omega) (by omega)).trans (((p65bbhst (by omega) w).2.2.2.2 i h2).trans (by rw [w65.2.1]))) (fun w i h1 h2 => (p162bbfr (k + 5) _ (by omega) (by omega) (by omega) (by omega) (by omega)).trans ((p65bbhst (by omega) w).2.2.2.1 i h2))
                             (fun x j h1 h2 => zxu (by omega) (zxu (by omega) (zxu (by omega) (zxu (by omega) rfl)))) (fun j => rfl)
                             (fun w x j hx hj => (p162bbfr x j (by omega) (by omega) (by omega) (by omega) (by omega)).trans (p65bbbfr x j (by omega) (by omega) (by omega) (by omega) (by omega) (by omega) (by omega))) (fun w j hj => (p162bbfr (k + 5) j (by omega) (by omega) (by omega) (by omega) (by omega)).trans (p65bbbfr (k + 5) j (by omega) (by omega) (by omega) (by omega) (by omega) (by omega) (by omega))) (fun w j hj => (p162bbfr (k + 6) j (by omega) (by omega) (by omega) (by omega) (by omega)).trans (p65bbbfr (k + 6) j (by omega) (by omega) (by omega) (by omega) (by omega) (by omega) (by omega))) (fun w j hj => (p162bbfr (k + 9) j (by omega) (by omega) (by omega) (by omega) (by omega)).trans (p65bbbfr (k + 9) j (by omega) (by omega) (by omega) (by omega) (by omega) (by omega) (by omega))) (fun w j hj => (p162bbbfrL (k + 4) j (by omega) (by omega)).trans (p65bbbbfrL (k + 4) j (by omega))), y2.1, zxe.trans (show _ = ((tyd s + 1 : Nat) : Int) by omega)⟩)
                      | (have e0 : ((tKd c (tSk tBk c n (p_ + 1)) (tSk tSm c n (tSk tBk c n (p_ + 1)))).toNat) = 0 := by omega
                         have hx : tVz c n 1 (tKd c (tSk tBk c n (p_ + 1)) (tSk tSm c n (tSk tBk c n (p_ + 1)))).toNat (tSk tSm c n (tSk tBk c n (p_ + 1))) (tFv (tKd c (tSk tBk c n (p_ + 1)) (tSk tSm c n (tSk tBk c n (p_ + 1)))).toNat (tyx s)) = -1 := by
                           rw [tyB_8 hc em.2.1 (show (tKd c (tSk tBk c n (p_ + 1)) (tSk tSm c n (tSk tBk c n (p_ + 1)))) ≠ 9 by omega)] at h9
                           exact h9
                         rw [tyB_v (show (tKd c (tSk tBk c n (p_ + 1)) (tSk tSm c n (tSk tBk c n (p_ + 1)))) ≠ 9 by omega) hx (fun w => absurd w (by decide))]
                         have hx2 := hx
                         rw [e0, tFv_00] at hx2
                         rcases p150hg with w | w
                         · exfalso
                           rw [tVz_v.1 w.1] at hx2
                           omega
                         · rw [tVz_v.2.1 w.1] at hx2
                           have y2 := w.2.2 hx2
                           have ex : tXx c n 1 ((tKd c (tSk tBk c n (p_ + 1)) (tSk tSm c n (tSk tBk c n (p_ + 1)))).toNat) (tSk tSm c n (tSk tBk c n (p_ + 1))) (tFv (tKd c (tSk tBk c n (p_ + 1)) (tSk tSm c n (tSk tBk c n (p_ + 1)))).toNat (tyx s)) (tyx s) = tNv c n (tGe c n (tSk tSm c n (tSk tBk c n (p_ + 1))) 1) 0 := by
                             rw [e0, tFv_00]
                             exact tVz_v.2.2.2 _
                           have ep : tVp c n 1 (tKd c (tSk tBk c n (p_ + 1)) (tSk tSm c n (tSk tBk c n (p_ + 1)))).toNat (tSk tSm c n (tSk tBk c n (p_ + 1))) (tFv (tKd c (tSk tBk c n (p_ + 1)) (tSk tSm c n (tSk tBk c n (p_ + 1)))).toNat (tyx s)) = tNe c n (tGe c n (tSk tSm c n (tSk tBk c n (p_ + 1))) 1) 0 := by
                             rw [e0, tFv_00]
                             exact tVz_v.2.2.1
                           exact ⟨zVO_O (I1 := I150o) (L1 := L150o) hs hg (a_ := ((tKd c (tSk tBk c n (p_ + 1)) (tSk tSm c n (tSk tBk c n (p_ + 1)))).toNat)) (by omega) (by omega) (Nat.le_refl _) (zxs (by omega) zxe) (zxs (by omega) (zxs (by omega) (zxu (by omega) (zxu (by omega) ((p150bfr k 22 (by omega) (by omega)).trans ((p65bbbfr k 22 (by omega) (by omega) (by omega) (by omega) (by omega) (by omega) (by omega)).trans s22)))))) ((zxs (by omega) (zxs (by omega) (zxu (by omega) (zxu (by omega) y2.2.1)))).trans ex.symm)
                             ⟨zxu (by omega) (zxu (by omega) (zxu (by omega) (zxe' (by omega)))), zxu (by omega) (zxu (by omega) ((zxe' (by omega)).trans (by omega)))⟩ (fun e he => ⟨zxu (by omega) (zxu (by omega) (zxu (by omega) (zxs (by omega) ((p150bfr (k + 10) e (by omega) (by omega)).trans (p65bbbfr (k + 10) e (by omega) (by omega) (by omega) (by omega) (by omega) (by omega) (by omega)))))), zxu (by omega) (zxu (by omega) (zxs (by omega) (zxu (by omega) ((p150bfr (k + 11) e (by omega) (by omega)).trans (p65bbbfr (k + 11) e (by omega) (by omega) (by omega) (by omega) (by omega) (by omega) (by omega))))))⟩)
                             (fun w => ⟨(p150bfr (k + 2) _ (by omega) (by omega)).trans ((p65bbhst (by omega) w).1.trans w65.2.1), (p150bfr (k + 3) _ (by omega) (by omega)).trans (g65b (by omega) w)⟩) (fun w h => absurd e0 h) (fun w i h1 h2 => (p150bbfrL (k + 4) _ (by omega)).trans (((p65bbhst (by omega) w).2.2.2.2 i h2).trans (by rw [w65.2.1]))) (fun w i h1 h2 => (p150bfr (k + 5) _ (by omega) (by omega)).trans ((p65bbhst (by omega) w).2.2.2.1 i h2))
                             (fun x j h1 h2 => zxu (by omega) (zxu (by omega) (zxu (by omega) (zxu (by omega) rfl)))) (fun j => rfl)
                             (fun w x j hx hj => (p150bfr x j (by omega) (by omega)).trans (p65bbbfr x j (by omega) (by omega) (by omega) (by omega) (by omega) (by omega) (by omega))) (fun w j hj => (p150bfr (k + 5) j (by omega) (by omega)).trans (p65bbbfr (k + 5) j (by omega) (by omega) (by omega) (by omega) (by omega) (by omega) (by omega))) (fun w j hj => (p150bfr (k + 6) j (by omega) (by omega)).trans (p65bbbfr (k + 6) j (by omega) (by omega) (by omega) (by omega) (by omega) (by omega) (by omega))) (fun w j hj => (p150bfr (k + 9) j (by omega) (by omega)).trans (p65bbbfr (k + 9) j (by omega) (by omega) (by omega) (by omega) (by omega) (by omega) (by omega))) (fun w j hj => (p150bbfrL (k + 4) j (by omega)).trans (p65bbbbfrL (k + 4) j (by omega))), y2.1.trans (congrArg Nat.cast ep.symm), zxe.trans (show _ = ((tyd s + 1 : Nat) : Int) by omega)⟩)))
                | (exfalso; omega)
        · refine hQ _ _ _ ?_ ?_ (by omega) (fun c j h0 h1 h2 h3 h4 h5 h6 h7 h8 h9 h10 h11 h12 h13 h14 h15 => ((p65bbbfr c j h2 h3 h4 (fun w => h7 ⟨w.1, w.2.1⟩) (fun w => h8 ⟨w.1, w.2.1⟩) (fun w => h12 ⟨w.1, w.2.1⟩) (fun w => h9 ⟨w.1, w.2.1⟩)).trans rfl)) (fun c j h0 h1 => ((p65bbbbfrL c j (fun w => h1 ⟨w.1, w.2.1⟩)).trans rfl))
          · first
            | (rw [show tyL c n s p_ = tyF s p_ from if_pos (by omega)]
               exact zxe.trans (show _ = ((p_ : Nat) : Int) by omega))
            | (rw [show tyL c n s p_ = tyG c n 1 s (tSk tBk c n (p_ + 1)) p_ (tyd s) from if_neg (by omega)]
               first
               | (rw [tyG_n w65.1]
                  exact w65.2.2)
               | (rw [tyG_t w65.1, tyB_9 (show (tKd c (tSk tBk c n (p_ + 1)) (tSk tSm c n (tSk tBk c n (p_ + 1)))) = 9 by omega), tkX_1]
                  exact zxs (by omega) p123hf)
               | (rw [tyG_t w65.1, tyB_8 hc (tSm_s hc w65.1.1).2.1 (show (tKd c (tSk tBk c n (p_ + 1)) (tSk tSm c n (tSk tBk c n (p_ + 1)))) ≠ 9 by omega)]
                  exact zxs (by omega) (zxs (by omega) (zxu (by omega) (zxu (by omega) p162hf))))
               | (rw [tyG_t w65.1, tyB_8 hc (tSm_s hc w65.1.1).2.1 (show (tKd c (tSk tBk c n (p_ + 1)) (tSk tSm c n (tSk tBk c n (p_ + 1)))) ≠ 9 by omega)]
                  have e0 : ((tKd c (tSk tBk c n (p_ + 1)) (tSk tSm c n (tSk tBk c n (p_ + 1)))).toNat) = 0 := by omega
                  rw [e0, tFv_00]
                  rcases p150hg with w | w
                  · rw [tVz_v.1 w.1]
                    exact zxs (by omega) (zxs (by omega) (zxu (by omega) (zxu (by omega) w.2)))
                  · rw [tVz_v.2.1 w.1]
                    exact zxs (by omega) (zxs (by omega) (zxu (by omega) (zxu (by omega) w.2.1)))))
            | (exfalso; omega)
          · intro h9
            first
            | (exfalso
               rw [show tyL c n s p_ = tyF s p_ from if_pos (by omega)] at h9
               exact tyF_f h9)
            | (rw [show tyL c n s p_ = tyG c n 1 s (tSk tBk c n (p_ + 1)) p_ (tyd s) from if_neg (by omega)] at h9 ⊢
               first
               | (exfalso
                  rw [tyG_n w65.1] at h9
                  exact tyF_f h9)
               | (rw [tyG_t w65.1] at h9 ⊢
                  have em := tSm_s hc w65.1.1
                  first
                  | (have hx : tuX c n (p_ + 2000 - tyk s) (tyd s) (tSk tSm c n (tSk tBk c n (p_ + 1))) = -1 := by
                       rw [tyB_9 (show (tKd c (tSk tBk c n (p_ + 1)) (tSk tSm c n (tSk tBk c n (p_ + 1)))) = 9 by omega), tkX_1] at h9
                       exact h9
                     have y2 := p123bhok hx
                     have eb := tuX_b hc hx
                     have e9 : v65o.toNat = 9 := by omega
                     rw [tyB_u (show (tKd c (tSk tBk c n (p_ + 1)) (tSk tSm c n (tSk tBk c n (p_ + 1)))) = 9 by omega) (tkX_1.trans hx), tkE_1]
                     refine ⟨?_, y2.1, zxs (by omega) ((p123bbbfr k 29 (by omega) (by omega) (by omega) (by omega)).trans ((p116bfr k 29 (by omega) (by omega) (by omega) (by omega)).trans (by first | exact zxu (by omega) ((p65bbbfr k 29 (by omega) (by omega) (by omega) (by omega) (by omega) (by omega) (by omega)).trans hdn) | exact (p65bbbfr k 29 (by omega) (by omega) (by omega) (by omega) (by omega) (by omega) (by omega)).trans hdn)))⟩
                     first
                     | exact zVO_U hs hg (by omega) (hn0_ w65.1 (by omega)) zxe (zVK_fr y2.2 (fun x j h => zxcj (by omega) rfl)) (zxs (by omega) ((p123bbbfr k 16 (by omega) (by omega) (by omega) (by omega)).trans ((p116bfr k 16 (by omega) (by omega) (by omega) (by omega)).trans (zxu (by omega) (p65bbbfr k 16 (by omega) (by omega) (by omega) (by omega) (by omega) (by omega) (by omega)))))) (fun e => ⟨zxu (by omega) ((p123bbbfr (k + 10) e (by omega) (by omega) (by omega) (by omega)).trans ((p116bfr (k + 10) e (by omega) (by omega) (by omega) (by omega)).trans (zxu (by omega) (p65bbbfr (k + 10) e (by omega) (by omega) (by omega) (by omega) (by omega) (by omega) (by omega))))), zxu (by omega) ((p123bbbfr (k + 11) e (by omega) (by omega) (by omega) (by omega)).trans ((p116bfr (k + 11) e (by omega) (by omega) (by omega) (by omega)).trans (zxu (by omega) (p65bbbfr (k + 11) e (by omega) (by omega) (by omega) (by omega) (by omega) (by omega) (by omega)))))⟩)
                         (fun w => ⟨zxu (by omega) ((p123bbbfr (k + 2) _ (by omega) (by omega) (by omega) (by omega)).trans ((p116bfr (k + 2) _ (by omega) (by omega) (by omega) (by omega)).trans (zxu (by omega) ((p65bbhst (by omega) w).1.trans (by omega))))), zxu (by omega) ((p123bbbfr (k + 3) _ (by omega) (by omega) (by omega) (by omega)).trans ((p116bfr (k + 3) _ (by omega) (by omega) (by omega) (by omega)).trans (zxu (by omega) (g65b (by omega) w))))⟩)
                         (fun w => zxu (by omega) ((p123bbbfr (k + 7) _ (by omega) (by omega) (by omega) (by omega)).trans ((p116bfr (k + 7) _ (by omega) (by omega) (by omega) (by omega)).trans (zxe' (by omega))))) (fun w i hi => ((p65bbhst (by omega) w).2.2.2.2 i hi).trans (by rw [e9]))
                         (fun w x j hx hj => zxu (by omega) ((p123bbbfr x j (by omega) (by omega) (by omega) (by omega)).trans ((p116bfr x j (by omega) (by omega) (by omega) (by omega)).trans (zxcj (by omega) (p65bbbfr x j (by omega) (by omega) (by omega) (by omega) (by omega) (by omega) (by omega)))))) (fun w j hj => zxu (by omega) ((p123bbbfr (k + 5) j (by omega) (by omega) (by omega) (by omega)).trans ((p116bfr (k + 5) j (by omega) (by omega) (by omega) (by omega)).trans (zxu (by omega) (p65bbbfr (k + 5) j (by omega) (by omega) (by omega) (by omega) (by omega) (by omega) (by omega)))))) (fun w j hj => zxu (by omega) ((p123bbbfr (k + 6) j (by omega) (by omega) (by omega) (by omega)).trans ((p116bfr (k + 6) j (by omega) (by omega) (by omega) (by omega)).trans (zxu (by omega) (p65bbbfr (k + 6) j (by omega) (by omega) (by omega) (by omega) (by omega) (by omega) (by omega)))))) (fun w j hj => zxu (by omega) ((p123bbbfr (k + 9) j (by omega) (by omega) (by omega) (by omega)).trans ((p116bfr (k + 9) j (by omega) (by omega) (by omega) (by omega)).trans (zxu (by omega) (p65bbbfr (k + 9) j (by omega) (by omega) (by omega) (by omega) (by omega) (by omega) (by omega)))))) (fun w j hj => p65bbbbfrL (k + 4) j (by omega))
                     | exact zVO_U hs hg (by omega) (hn0_ w65.1 (by omega)) zxe (zVK_fr y2.2 (fun x j h => zxcj (by omega) rfl)) (zxs (by omega) ((p123bbbfr k 16 (by omega) (by omega) (by omega) (by omega)).trans ((p116bfr k 16 (by omega) (by omega) (by omega) (by omega)).trans (p65bbbfr k 16 (by omega) (by omega) (by omega) (by omega) (by omega) (by omega) (by omega))))) (fun e => ⟨zxu (by omega) ((p123bbbfr (k + 10) e (by omega) (by omega) (by omega) (by omega)).trans ((p116bfr (k + 10) e (by omega) (by omega) (by omega) (by omega)).trans (p65bbbfr (k + 10) e (by omega) (by omega) (by omega) (by omega) (by omega) (by omega) (by omega)))), zxu (by omega) ((p123bbbfr (k + 11) e (by omega) (by omega) (by omega) (by omega)).trans ((p116bfr (k + 11) e (by omega) (by omega) (by omega) (by omega)).trans (p65bbbfr (k + 11) e (by omega) (by omega) (by omega) (by omega) (by omega) (by omega) (by omega))))⟩)
                         (fun w => by exfalso; omega) (fun w => by exfalso; omega) (fun w => by exfalso; omega) (fun w => by exfalso; omega) (fun w => by exfalso; omega) (fun w => by exfalso; omega) (fun w => by exfalso; omega) (fun w => by exfalso; omega))
                  | (have hx : tVz c n 1 (tKd c (tSk tBk c n (p_ + 1)) (tSk tSm c n (tSk tBk c n (p_ + 1)))).toNat (tSk tSm c n (tSk tBk c n (p_ + 1))) (tFv (tKd c (tSk tBk c n (p_ + 1)) (tSk tSm c n (tSk tBk c n (p_ + 1)))).toNat (tyx s)) = -1 := by
                       rw [tyB_8 hc em.2.1 (show (tKd c (tSk tBk c n (p_ + 1)) (tSk tSm c n (tSk tBk c n (p_ + 1)))) ≠ 9 by omega)] at h9
                       exact h9
                     have y2 := p162bhok hx
                     rw [tyB_v (show (tKd c (tSk tBk c n (p_ + 1)) (tSk tSm c n (tSk tBk c n (p_ + 1)))) ≠ 9 by omega) hx (fun w => absurd w (by decide))]
                     exact ⟨zVO_O (I1 := I162o) (L1 := L162o) hs hg (a_ := ((tKd c (tSk tBk c n (p_ + 1)) (tSk tSm c n (tSk tBk c n (p_ + 1)))).toNat)) (by omega) (by omega) (Nat.le_refl _) (zxs (by omega) zxe) (zxs (by omega) (zxs (by omega) (zxu (by omega) (zxu (by omega) ((p162bbfr k 22 (by omega) (by omega) (by omega) (by omega) (by omega)).trans ((p65bbbfr k 22 (by omega) (by omega) (by omega) (by omega) (by omega) (by omega) (by omega)).trans s22)))))) ((zxs (by omega) (zxs (by omega) (zxu (by omega) (zxu (by omega) ((p162bbfr k 16 (by omega) (by omega) (by omega) (by omega) (by omega)).trans ((p65bbbfr k 16 (by omega) (by omega) (by omega) (by omega) (by omega) (by omega) (by omega)).trans (s16 (hn0_ w65.1 (by omega))))))))).trans (tXx_f (by omega)).symm)
                         ⟨zxu (by omega) (zxu (by omega) (zxu (by omega) (zxe' (by omega)))), zxu (by omega) (zxu (by omega) ((zxe' (by omega)).trans (by omega)))⟩ (fun e he => ⟨zxu (by omega) (zxu (by omega) (zxu (by omega) (zxs (by omega) ((p162bbfr (k + 10) e (by omega) (by omega) (by omega) (by omega) (by omega)).trans (p65bbbfr (k + 10) e (by omega) (by omega) (by omega) (by omega) (by omega) (by omega) (by omega)))))), zxu (by omega) (zxu (by omega) (zxs (by omega) (zxu (by omega) ((p162bbfr (k + 11) e (by omega) (by omega) (by omega) (by omega) (by omega)).trans (p65bbbfr (k + 11) e (by omega) (by omega) (by omega) (by omega) (by omega) (by omega) (by omega))))))⟩)
                         (fun w => ⟨(p162bbfr (k + 2) _ (by omega) (by omega) (by omega) (by omega) (by omega)).trans ((p65bbhst (by omega) w).1.trans w65.2.1), (p162bbfr (k + 3) _ (by omega) (by omega) (by omega) (by omega) (by omega)).trans (g65b (by omega) w)⟩) (fun w _ => y2.2 w) (fun w i h1 h2 => (p162bbbfrL (k + 4) _ (by omega) (by omega)).trans (((p65bbhst (by omega) w).2.2.2.2 i h2).trans (by rw [w65.2.1]))) (fun w i h1 h2 => (p162bbfr (k + 5) _ (by omega) (by omega) (by omega) (by omega) (by omega)).trans ((p65bbhst (by omega) w).2.2.2.1 i h2))
                         (fun x j h1 h2 => zxu (by omega) (zxu (by omega) (zxu (by omega) (zxu (by omega) rfl)))) (fun j => rfl)
                         (fun w x j hx hj => (p162bbfr x j (by omega) (by omega) (by omega) (by omega) (by omega)).trans (p65bbbfr x j (by omega) (by omega) (by omega) (by omega) (by omega) (by omega) (by omega))) (fun w j hj => (p162bbfr (k + 5) j (by omega) (by omega) (by omega) (by omega) (by omega)).trans (p65bbbfr (k + 5) j (by omega) (by omega) (by omega) (by omega) (by omega) (by omega) (by omega))) (fun w j hj => (p162bbfr (k + 6) j (by omega) (by omega) (by omega) (by omega) (by omega)).trans (p65bbbfr (k + 6) j (by omega) (by omega) (by omega) (by omega) (by omega) (by omega) (by omega))) (fun w j hj => (p162bbfr (k + 9) j (by omega) (by omega) (by omega) (by omega) (by omega)).trans (p65bbbfr (k + 9) j (by omega) (by omega) (by omega) (by omega) (by omega) (by omega) (by omega))) (fun w j hj => (p162bbbfrL (k + 4) j (by omega) (by omega)).trans (p65bbbbfrL (k + 4) j (by omega))), y2.1, zxe.trans (show _ = ((tyd s + 1 : Nat) : Int) by omega)⟩)
                  | (have e0 : ((tKd c (tSk tBk c n (p_ + 1)) (tSk tSm c n (tSk tBk c n (p_ + 1)))).toNat) = 0 := by omega
                     have hx : tVz c n 1 (tKd c (tSk tBk c n (p_ + 1)) (tSk tSm c n (tSk tBk c n (p_ + 1)))).toNat (tSk tSm c n (tSk tBk c n (p_ + 1))) (tFv (tKd c (tSk tBk c n (p_ + 1)) (tSk tSm c n (tSk tBk c n (p_ + 1)))).toNat (tyx s)) = -1 := by
                       rw [tyB_8 hc em.2.1 (show (tKd c (tSk tBk c n (p_ + 1)) (tSk tSm c n (tSk tBk c n (p_ + 1)))) ≠ 9 by omega)] at h9
                       exact h9
                     rw [tyB_v (show (tKd c (tSk tBk c n (p_ + 1)) (tSk tSm c n (tSk tBk c n (p_ + 1)))) ≠ 9 by omega) hx (fun w => absurd w (by decide))]
                     have hx2 := hx
                     rw [e0, tFv_00] at hx2
                     rcases p150hg with w | w
                     · exfalso
                       rw [tVz_v.1 w.1] at hx2
                       omega
                     · rw [tVz_v.2.1 w.1] at hx2
                       have y2 := w.2.2 hx2
                       have ex : tXx c n 1 ((tKd c (tSk tBk c n (p_ + 1)) (tSk tSm c n (tSk tBk c n (p_ + 1)))).toNat) (tSk tSm c n (tSk tBk c n (p_ + 1))) (tFv (tKd c (tSk tBk c n (p_ + 1)) (tSk tSm c n (tSk tBk c n (p_ + 1)))).toNat (tyx s)) (tyx s) = tNv c n (tGe c n (tSk tSm c n (tSk tBk c n (p_ + 1))) 1) 0 := by
                         rw [e0, tFv_00]
                         exact tVz_v.2.2.2 _
                       have ep : tVp c n 1 (tKd c (tSk tBk c n (p_ + 1)) (tSk tSm c n (tSk tBk c n (p_ + 1)))).toNat (tSk tSm c n (tSk tBk c n (p_ + 1))) (tFv (tKd c (tSk tBk c n (p_ + 1)) (tSk tSm c n (tSk tBk c n (p_ + 1)))).toNat (tyx s)) = tNe c n (tGe c n (tSk tSm c n (tSk tBk c n (p_ + 1))) 1) 0 := by
                         rw [e0, tFv_00]
                         exact tVz_v.2.2.1
                       exact ⟨zVO_O (I1 := I150o) (L1 := L150o) hs hg (a_ := ((tKd c (tSk tBk c n (p_ + 1)) (tSk tSm c n (tSk tBk c n (p_ + 1)))).toNat)) (by omega) (by omega) (Nat.le_refl _) (zxs (by omega) zxe) (zxs (by omega) (zxs (by omega) (zxu (by omega) (zxu (by omega) ((p150bfr k 22 (by omega) (by omega)).trans ((p65bbbfr k 22 (by omega) (by omega) (by omega) (by omega) (by omega) (by omega) (by omega)).trans s22)))))) ((zxs (by omega) (zxs (by omega) (zxu (by omega) (zxu (by omega) y2.2.1)))).trans ex.symm)
                         ⟨zxu (by omega) (zxu (by omega) (zxu (by omega) (zxe' (by omega)))), zxu (by omega) (zxu (by omega) ((zxe' (by omega)).trans (by omega)))⟩ (fun e he => ⟨zxu (by omega) (zxu (by omega) (zxu (by omega) (zxs (by omega) ((p150bfr (k + 10) e (by omega) (by omega)).trans (p65bbbfr (k + 10) e (by omega) (by omega) (by omega) (by omega) (by omega) (by omega) (by omega)))))), zxu (by omega) (zxu (by omega) (zxs (by omega) (zxu (by omega) ((p150bfr (k + 11) e (by omega) (by omega)).trans (p65bbbfr (k + 11) e (by omega) (by omega) (by omega) (by omega) (by omega) (by omega) (by omega))))))⟩)
                         (fun w => ⟨(p150bfr (k + 2) _ (by omega) (by omega)).trans ((p65bbhst (by omega) w).1.trans w65.2.1), (p150bfr (k + 3) _ (by omega) (by omega)).trans (g65b (by omega) w)⟩) (fun w h => absurd e0 h) (fun w i h1 h2 => (p150bbfrL (k + 4) _ (by omega)).trans (((p65bbhst (by omega) w).2.2.2.2 i h2).trans (by rw [w65.2.1]))) (fun w i h1 h2 => (p150bfr (k + 5) _ (by omega) (by omega)).trans ((p65bbhst (by omega) w).2.2.2.1 i h2))
                         (fun x j h1 h2 => zxu (by omega) (zxu (by omega) (zxu (by omega) (zxu (by omega) rfl)))) (fun j => rfl)
                         (fun w x j hx hj => (p150bfr x j (by omega) (by omega)).trans (p65bbbfr x j (by omega) (by omega) (by omega) (by omega) (by omega) (by omega) (by omega))) (fun w j hj => (p150bfr (k + 5) j (by omega) (by omega)).trans (p65bbbfr (k + 5) j (by omega) (by omega) (by omega) (by omega) (by omega) (by omega) (by omega))) (fun w j hj => (p150bfr (k + 6) j (by omega) (by omega)).trans (p65bbbfr (k + 6) j (by omega) (by omega) (by omega) (by omega) (by omega) (by omega) (by omega))) (fun w j hj => (p150bfr (k + 9) j (by omega) (by omega)).trans (p65bbbfr (k + 9) j (by omega) (by omega) (by omega) (by omega) (by omega) (by omega) (by omega))) (fun w j hj => (p150bbfrL (k + 4) j (by omega)).trans (p65bbbbfrL (k + 4) j (by omega))), y2.1.trans (congrArg Nat.cast ep.symm), zxe.trans (show _ = ((tyd s + 1 : Nat) : Int) by omega)⟩)))
            | (exfalso; omega)
      · refine And.intro ⟨(by omega), (zRb rfl)⟩ ⟨(fun h73 => False.elim (by omega)), fun h73 => ?_⟩
        refine hQ _ _ _ ?_ ?_ (by omega) (fun c j h0 h1 h2 h3 h4 h5 h6 h7 h8 h9 h10 h11 h12 h13 h14 h15 => ((p65bbbfr c j h2 h3 h4 (fun w => h7 ⟨w.1, w.2.1⟩) (fun w => h8 ⟨w.1, w.2.1⟩) (fun w => h12 ⟨w.1, w.2.1⟩) (fun w => h9 ⟨w.1, w.2.1⟩)).trans rfl)) (fun c j h0 h1 => ((p65bbbbfrL c j (fun w => h1 ⟨w.1, w.2.1⟩)).trans rfl))
        · first
          | (rw [show tyL c n s p_ = tyF s p_ from if_pos (by omega)]
             exact zxe.trans (show _ = ((p_ : Nat) : Int) by omega))
          | (rw [show tyL c n s p_ = tyG c n 1 s (tSk tBk c n (p_ + 1)) p_ (tyd s) from if_neg (by omega)]
             first
             | (rw [tyG_n w65.1]
                exact w65.2.2)
             | (rw [tyG_t w65.1, tyB_9 (show (tKd c (tSk tBk c n (p_ + 1)) (tSk tSm c n (tSk tBk c n (p_ + 1)))) = 9 by omega), tkX_1]
                exact zxs (by omega) p123hf)
             | (rw [tyG_t w65.1, tyB_8 hc (tSm_s hc w65.1.1).2.1 (show (tKd c (tSk tBk c n (p_ + 1)) (tSk tSm c n (tSk tBk c n (p_ + 1)))) ≠ 9 by omega)]
                exact zxs (by omega) (zxs (by omega) (zxu (by omega) (zxu (by omega) p162hf))))
             | (rw [tyG_t w65.1, tyB_8 hc (tSm_s hc w65.1.1).2.1 (show (tKd c (tSk tBk c n (p_ + 1)) (tSk tSm c n (tSk tBk c n (p_ + 1)))) ≠ 9 by omega)]
                have e0 : ((tKd c (tSk tBk c n (p_ + 1)) (tSk tSm c n (tSk tBk c n (p_ + 1)))).toNat) = 0 := by omega
                rw [e0, tFv_00]
                rcases p150hg with w | w
                · rw [tVz_v.1 w.1]
                  exact zxs (by omega) (zxs (by omega) (zxu (by omega) (zxu (by omega) w.2)))
                · rw [tVz_v.2.1 w.1]
                  exact zxs (by omega) (zxs (by omega) (zxu (by omega) (zxu (by omega) w.2.1)))))
          | (exfalso; omega)
        · intro h9
          first
          | (exfalso
             rw [show tyL c n s p_ = tyF s p_ from if_pos (by omega)] at h9
             exact tyF_f h9)
          | (rw [show tyL c n s p_ = tyG c n 1 s (tSk tBk c n (p_ + 1)) p_ (tyd s) from if_neg (by omega)] at h9 ⊢
             first
             | (exfalso
                rw [tyG_n w65.1] at h9
                exact tyF_f h9)
             | (rw [tyG_t w65.1] at h9 ⊢
                have em := tSm_s hc w65.1.1
                first
                | (have hx : tuX c n (p_ + 2000 - tyk s) (tyd s) (tSk tSm c n (tSk tBk c n (p_ + 1))) = -1 := by
                     rw [tyB_9 (show (tKd c (tSk tBk c n (p_ + 1)) (tSk tSm c n (tSk tBk c n (p_ + 1)))) = 9 by omega), tkX_1] at h9
                     exact h9
                   have y2 := p123bhok hx
                   have eb := tuX_b hc hx
                   have e9 : v65o.toNat = 9 := by omega
                   rw [tyB_u (show (tKd c (tSk tBk c n (p_ + 1)) (tSk tSm c n (tSk tBk c n (p_ + 1)))) = 9 by omega) (tkX_1.trans hx), tkE_1]
                   refine ⟨?_, y2.1, zxs (by omega) ((p123bbbfr k 29 (by omega) (by omega) (by omega) (by omega)).trans ((p116bfr k 29 (by omega) (by omega) (by omega) (by omega)).trans (by first | exact zxu (by omega) ((p65bbbfr k 29 (by omega) (by omega) (by omega) (by omega) (by omega) (by omega) (by omega)).trans hdn) | exact (p65bbbfr k 29 (by omega) (by omega) (by omega) (by omega) (by omega) (by omega) (by omega)).trans hdn)))⟩
                   first
                   | exact zVO_U hs hg (by omega) (hn0_ w65.1 (by omega)) zxe (zVK_fr y2.2 (fun x j h => zxcj (by omega) rfl)) (zxs (by omega) ((p123bbbfr k 16 (by omega) (by omega) (by omega) (by omega)).trans ((p116bfr k 16 (by omega) (by omega) (by omega) (by omega)).trans (zxu (by omega) (p65bbbfr k 16 (by omega) (by omega) (by omega) (by omega) (by omega) (by omega) (by omega)))))) (fun e => ⟨zxu (by omega) ((p123bbbfr (k + 10) e (by omega) (by omega) (by omega) (by omega)).trans ((p116bfr (k + 10) e (by omega) (by omega) (by omega) (by omega)).trans (zxu (by omega) (p65bbbfr (k + 10) e (by omega) (by omega) (by omega) (by omega) (by omega) (by omega) (by omega))))), zxu (by omega) ((p123bbbfr (k + 11) e (by omega) (by omega) (by omega) (by omega)).trans ((p116bfr (k + 11) e (by omega) (by omega) (by omega) (by omega)).trans (zxu (by omega) (p65bbbfr (k + 11) e (by omega) (by omega) (by omega) (by omega) (by omega) (by omega) (by omega)))))⟩)
                       (fun w => ⟨zxu (by omega) ((p123bbbfr (k + 2) _ (by omega) (by omega) (by omega) (by omega)).trans ((p116bfr (k + 2) _ (by omega) (by omega) (by omega) (by omega)).trans (zxu (by omega) ((p65bbhst (by omega) w).1.trans (by omega))))), zxu (by omega) ((p123bbbfr (k + 3) _ (by omega) (by omega) (by omega) (by omega)).trans ((p116bfr (k + 3) _ (by omega) (by omega) (by omega) (by omega)).trans (zxu (by omega) (g65b (by omega) w))))⟩)
                       (fun w => zxu (by omega) ((p123bbbfr (k + 7) _ (by omega) (by omega) (by omega) (by omega)).trans ((p116bfr (k + 7) _ (by omega) (by omega) (by omega) (by omega)).trans (zxe' (by omega))))) (fun w i hi => ((p65bbhst (by omega) w).2.2.2.2 i hi).trans (by rw [e9]))
                       (fun w x j hx hj => zxu (by omega) ((p123bbbfr x j (by omega) (by omega) (by omega) (by omega)).trans ((p116bfr x j (by omega) (by omega) (by omega) (by omega)).trans (zxcj (by omega) (p65bbbfr x j (by omega) (by omega) (by omega) (by omega) (by omega) (by omega) (by omega)))))) (fun w j hj => zxu (by omega) ((p123bbbfr (k + 5) j (by omega) (by omega) (by omega) (by omega)).trans ((p116bfr (k + 5) j (by omega) (by omega) (by omega) (by omega)).trans (zxu (by omega) (p65bbbfr (k + 5) j (by omega) (by omega) (by omega) (by omega) (by omega) (by omega) (by omega)))))) (fun w j hj => zxu (by omega) ((p123bbbfr (k + 6) j (by omega) (by omega) (by omega) (by omega)).trans ((p116bfr (k + 6) j (by omega) (by omega) (by omega) (by omega)).trans (zxu (by omega) (p65bbbfr (k + 6) j (by omega) (by omega) (by omega) (by omega) (by omega) (by omega) (by omega)))))) (fun w j hj => zxu (by omega) ((p123bbbfr (k + 9) j (by omega) (by omega) (by omega) (by omega)).trans ((p116bfr (k + 9) j (by omega) (by omega) (by omega) (by omega)).trans (zxu (by omega) (p65bbbfr (k + 9) j (by omega) (by omega) (by omega) (by omega) (by omega) (by omega) (by omega)))))) (fun w j hj => p65bbbbfrL (k + 4) j (by omega))
                   | exact zVO_U hs hg (by omega) (hn0_ w65.1 (by omega)) zxe (zVK_fr y2.2 (fun x j h => zxcj (by omega) rfl)) (zxs (by omega) ((p123bbbfr k 16 (by omega) (by omega) (by omega) (by omega)).trans ((p116bfr k 16 (by omega) (by omega) (by omega) (by omega)).trans (p65bbbfr k 16 (by omega) (by omega) (by omega) (by omega) (by omega) (by omega) (by omega))))) (fun e => ⟨zxu (by omega) ((p123bbbfr (k + 10) e (by omega) (by omega) (by omega) (by omega)).trans ((p116bfr (k + 10) e (by omega) (by omega) (by omega) (by omega)).trans (p65bbbfr (k + 10) e (by omega) (by omega) (by omega) (by omega) (by omega) (by omega) (by omega)))), zxu (by omega) ((p123bbbfr (k + 11) e (by omega) (by omega) (by omega) (by omega)).trans ((p116bfr (k + 11) e (by omega) (by omega) (by omega) (by omega)).trans (p65bbbfr (k + 11) e (by omega) (by omega) (by omega) (by omega) (by omega) (by omega) (by omega))))⟩)
                       (fun w => by exfalso; omega) (fun w => by exfalso; omega) (fun w => by exfalso; omega) (fun w => by exfalso; omega) (fun w => by exfalso; omega) (fun w => by exfalso; omega) (fun w => by exfalso; omega) (fun w => by exfalso; omega))
                | (have hx : tVz c n 1 (tKd c (tSk tBk c n (p_ + 1)) (tSk tSm c n (tSk tBk c n (p_ + 1)))).toNat (tSk tSm c n (tSk tBk c n (p_ + 1))) (tFv (tKd c (tSk tBk c n (p_ + 1)) (tSk tSm c n (tSk tBk c n (p_ + 1)))).toNat (tyx s)) = -1 := by
                     rw [tyB_8 hc em.2.1 (show (tKd c (tSk tBk c n (p_ + 1)) (tSk tSm c n (tSk tBk c n (p_ + 1)))) ≠ 9 by omega)] at h9
                     exact h9
                   have y2 := p162bhok hx
                   rw [tyB_v (show (tKd c (tSk tBk c n (p_ + 1)) (tSk tSm c n (tSk tBk c n (p_ + 1)))) ≠ 9 by omega) hx (fun w => absurd w (by decide))]
                   exact ⟨zVO_O (I1 := I162o) (L1 := L162o) hs hg (a_ := ((tKd c (tSk tBk c n (p_ + 1)) (tSk tSm c n (tSk tBk c n (p_ + 1)))).toNat)) (by omega) (by omega) (Nat.le_refl _) (zxs (by omega) zxe) (zxs (by omega) (zxs (by omega) (zxu (by omega) (zxu (by omega) ((p162bbfr k 22 (by omega) (by omega) (by omega) (by omega) (by omega)).trans ((p65bbbfr k 22 (by omega) (by omega) (by omega) (by omega) (by omega) (by omega) (by omega)).trans s22)))))) ((zxs (by omega) (zxs (by omega) (zxu (by omega) (zxu (by omega) ((p162bbfr k 16 (by omega) (by omega) (by omega) (by omega) (by omega)).trans ((p65bbbfr k 16 (by omega) (by omega) (by omega) (by omega) (by omega) (by omega) (by omega)).trans (s16 (hn0_ w65.1 (by omega))))))))).trans (tXx_f (by omega)).symm)
                       ⟨zxu (by omega) (zxu (by omega) (zxu (by omega) (zxe' (by omega)))), zxu (by omega) (zxu (by omega) ((zxe' (by omega)).trans (by omega)))⟩ (fun e he => ⟨zxu (by omega) (zxu (by omega) (zxu (by omega) (zxs (by omega) ((p162bbfr (k + 10) e (by omega) (by omega) (by omega) (by omega) (by omega)).trans (p65bbbfr (k + 10) e (by omega) (by omega) (by omega) (by omega) (by omega) (by omega) (by omega)))))), zxu (by omega) (zxu (by omega) (zxs (by omega) (zxu (by omega) ((p162bbfr (k + 11) e (by omega) (by omega) (by omega) (by omega) (by omega)).trans (p65bbbfr (k + 11) e (by omega) (by omega) (by omega) (by omega) (by omega) (by omega) (by omega))))))⟩)
                       (fun w => ⟨(p162bbfr (k + 2) _ (by omega) (by omega) (by omega) (by omega) (by omega)).trans ((p65bbhst (by omega) w).1.trans w65.2.1), (p162bbfr (k + 3) _ (by omega) (by omega) (by omega) (by omega) (by omega)).trans (g65b (by omega) w)⟩) (fun w _ => y2.2 w) (fun w i h1 h2 => (p162bbbfrL (k + 4) _ (by omega) (by omega)).trans (((p65bbhst (by omega) w).2.2.2.2 i h2).trans (by rw [w65.2.1]))) (fun w i h1 h2 => (p162bbfr (k + 5) _ (by omega) (by omega) (by omega) (by omega) (by omega)).trans ((p65bbhst (by omega) w).2.2.2.1 i h2))
                       (fun x j h1 h2 => zxu (by omega) (zxu (by omega) (zxu (by omega) (zxu (by omega) rfl)))) (fun j => rfl)
                       (fun w x j hx hj => (p162bbfr x j (by omega) (by omega) (by omega) (by omega) (by omega)).trans (p65bbbfr x j (by omega) (by omega) (by omega) (by omega) (by omega) (by omega) (by omega))) (fun w j hj => (p162bbfr (k + 5) j (by omega) (by omega) (by omega) (by omega) (by omega)).trans (p65bbbfr (k + 5) j (by omega) (by omega) (by omega) (by omega) (by omega) (by omega) (by omega))) (fun w j hj => (p162bbfr (k + 6) j (by omega) (by omega) (by omega) (by omega) (by omega)).trans (p65bbbfr (k + 6) j (by omega) (by omega) (by omega) (by omega) (by omega) (by omega) (by omega))) (fun w j hj => (p162bbfr (k + 9) j (by omega) (by omega) (by omega) (by omega) (by omega)).trans (p65bbbfr (k + 9) j (by omega) (by omega) (by omega) (by omega) (by omega) (by omega) (by omega))) (fun w j hj => (p162bbbfrL (k + 4) j (by omega) (by omega)).trans (p65bbbbfrL (k + 4) j (by omega))), y2.1, zxe.trans (show _ = ((tyd s + 1 : Nat) : Int) by omega)⟩)
                | (have e0 : ((tKd c (tSk tBk c n (p_ + 1)) (tSk tSm c n (tSk tBk c n (p_ + 1)))).toNat) = 0 := by omega
                   have hx : tVz c n 1 (tKd c (tSk tBk c n (p_ + 1)) (tSk tSm c n (tSk tBk c n (p_ + 1)))).toNat (tSk tSm c n (tSk tBk c n (p_ + 1))) (tFv (tKd c (tSk tBk c n (p_ + 1)) (tSk tSm c n (tSk tBk c n (p_ + 1)))).toNat (tyx s)) = -1 := by
                     rw [tyB_8 hc em.2.1 (show (tKd c (tSk tBk c n (p_ + 1)) (tSk tSm c n (tSk tBk c n (p_ + 1)))) ≠ 9 by omega)] at h9
                     exact h9
                   rw [tyB_v (show (tKd c (tSk tBk c n (p_ + 1)) (tSk tSm c n (tSk tBk c n (p_ + 1)))) ≠ 9 by omega) hx (fun w => absurd w (by decide))]
                   have hx2 := hx
                   rw [e0, tFv_00] at hx2
                   rcases p150hg with w | w
                   · exfalso
                     rw [tVz_v.1 w.1] at hx2
                     omega
                   · rw [tVz_v.2.1 w.1] at hx2
                     have y2 := w.2.2 hx2
                     have ex : tXx c n 1 ((tKd c (tSk tBk c n (p_ + 1)) (tSk tSm c n (tSk tBk c n (p_ + 1)))).toNat) (tSk tSm c n (tSk tBk c n (p_ + 1))) (tFv (tKd c (tSk tBk c n (p_ + 1)) (tSk tSm c n (tSk tBk c n (p_ + 1)))).toNat (tyx s)) (tyx s) = tNv c n (tGe c n (tSk tSm c n (tSk tBk c n (p_ + 1))) 1) 0 := by
                       rw [e0, tFv_00]
                       exact tVz_v.2.2.2 _
                     have ep : tVp c n 1 (tKd c (tSk tBk c n (p_ + 1)) (tSk tSm c n (tSk tBk c n (p_ + 1)))).toNat (tSk tSm c n (tSk tBk c n (p_ + 1))) (tFv (tKd c (tSk tBk c n (p_ + 1)) (tSk tSm c n (tSk tBk c n (p_ + 1)))).toNat (tyx s)) = tNe c n (tGe c n (tSk tSm c n (tSk tBk c n (p_ + 1))) 1) 0 := by
                       rw [e0, tFv_00]
                       exact tVz_v.2.2.1
                     exact ⟨zVO_O (I1 := I150o) (L1 := L150o) hs hg (a_ := ((tKd c (tSk tBk c n (p_ + 1)) (tSk tSm c n (tSk tBk c n (p_ + 1)))).toNat)) (by omega) (by omega) (Nat.le_refl _) (zxs (by omega) zxe) (zxs (by omega) (zxs (by omega) (zxu (by omega) (zxu (by omega) ((p150bfr k 22 (by omega) (by omega)).trans ((p65bbbfr k 22 (by omega) (by omega) (by omega) (by omega) (by omega) (by omega) (by omega)).trans s22)))))) ((zxs (by omega) (zxs (by omega) (zxu (by omega) (zxu (by omega) y2.2.1)))).trans ex.symm)
                       ⟨zxu (by omega) (zxu (by omega) (zxu (by omega) (zxe' (by omega)))), zxu (by omega) (zxu (by omega) ((zxe' (by omega)).trans (by omega)))⟩ (fun e he => ⟨zxu (by omega) (zxu (by omega) (zxu (by omega) (zxs (by omega) ((p150bfr (k + 10) e (by omega) (by omega)).trans (p65bbbfr (k + 10) e (by omega) (by omega) (by omega) (by omega) (by omega) (by omega) (by omega)))))), zxu (by omega) (zxu (by omega) (zxs (by omega) (zxu (by omega) ((p150bfr (k + 11) e (by omega) (by omega)).trans (p65bbbfr (k + 11) e (by omega) (by omega) (by omega) (by omega) (by omega) (by omega) (by omega))))))⟩)
                       (fun w => ⟨(p150bfr (k + 2) _ (by omega) (by omega)).trans ((p65bbhst (by omega) w).1.trans w65.2.1), (p150bfr (k + 3) _ (by omega) (by omega)).trans (g65b (by omega) w)⟩) (fun w h => absurd e0 h) (fun w i h1 h2 => (p150bbfrL (k + 4) _ (by omega)).trans (((p65bbhst (by omega) w).2.2.2.2 i h2).trans (by rw [w65.2.1]))) (fun w i h1 h2 => (p150bfr (k + 5) _ (by omega) (by omega)).trans ((p65bbhst (by omega) w).2.2.2.1 i h2))
                       (fun x j h1 h2 => zxu (by omega) (zxu (by omega) (zxu (by omega) (zxu (by omega) rfl)))) (fun j => rfl)
                       (fun w x j hx hj => (p150bfr x j (by omega) (by omega)).trans (p65bbbfr x j (by omega) (by omega) (by omega) (by omega) (by omega) (by omega) (by omega))) (fun w j hj => (p150bfr (k + 5) j (by omega) (by omega)).trans (p65bbbfr (k + 5) j (by omega) (by omega) (by omega) (by omega) (by omega) (by omega) (by omega))) (fun w j hj => (p150bfr (k + 6) j (by omega) (by omega)).trans (p65bbbfr (k + 6) j (by omega) (by omega) (by omega) (by omega) (by omega) (by omega) (by omega))) (fun w j hj => (p150bfr (k + 9) j (by omega) (by omega)).trans (p65bbbfr (k + 9) j (by omega) (by omega) (by omega) (by omega) (by omega) (by omega) (by omega))) (fun w j hj => (p150bbfrL (k + 4) j (by omega)).trans (p65bbbbfrL (k + 4) j (by omega))), y2.1.trans (congrArg Nat.cast ep.symm), zxe.trans (show _ = ((tyd s + 1 : Nat) : Int) by omega)⟩)))
          | (exfalso; omega)
  · refine And.intro (zDX hD 0 rfl) (Exists.intro _ (And.intro (zinl_ok (zT20_9 4)) (And.intro rfl ?_)))
    refine And.intro (zDX hD 0 rfl) (zrd (v := (-1)) hf0 ?_)
    refine And.intro ⟨(zRb rfl), (zRb rfl)⟩ (zbf rfl ?_)
    refine And.intro (zDX hD 0 rfl) ⟨_, (zWi (by omega)), ?_⟩
    refine And.intro (zDX hD 0 rfl) ⟨_, sn_V_bl2.up (by decide), ?_⟩
    refine ⟨_, _, _, ((p + 1) : Int), (p_ + 1), rfl, hD, (by first | exact (zRM_fr hX (fun c j h => (zxcj (by omega) rfl))) | (clear hQ; grind [xu])), (by first | exact hc | (clear hQ; grind [xu])), (by omega), ?_⟩
    intro v15o p15hv
    refine And.intro (zDX hD 0 rfl) (zrd (v := p) zxe ?_)
    refine And.intro ⟨(by omega), (zRb rfl)⟩ ⟨(fun h24 => False.elim (by omega)), fun h24 => ?_⟩
    refine And.intro ⟨(zRb rfl), (zRb rfl)⟩ (zbf rfl ?_)
    refine hQ _ _ _ ?_ ?_ (by omega) (fun c j h0 h1 h2 h3 h4 h5 h6 h7 h8 h9 h10 h11 h12 h13 h14 h15 => (zxcj h2 rfl)) (fun c j h0 h1 => rfl)
    · first
      | (rw [show tyL c n s p_ = tyF s p_ from if_pos (by omega)]
         exact zxe.trans (show _ = ((p_ : Nat) : Int) by omega))
      | (rw [show tyL c n s p_ = tyG c n 1 s (tSk tBk c n (p_ + 1)) p_ (tyd s) from if_neg (by omega)]
         first
         | (rw [tyG_n w65.1]
            exact w65.2.2)
         | (rw [tyG_t w65.1, tyB_9 (show (tKd c (tSk tBk c n (p_ + 1)) (tSk tSm c n (tSk tBk c n (p_ + 1)))) = 9 by omega), tkX_1]
            exact zxs (by omega) p123hf)
         | (rw [tyG_t w65.1, tyB_8 hc (tSm_s hc w65.1.1).2.1 (show (tKd c (tSk tBk c n (p_ + 1)) (tSk tSm c n (tSk tBk c n (p_ + 1)))) ≠ 9 by omega)]
            exact zxs (by omega) (zxs (by omega) (zxu (by omega) (zxu (by omega) p162hf))))
         | (rw [tyG_t w65.1, tyB_8 hc (tSm_s hc w65.1.1).2.1 (show (tKd c (tSk tBk c n (p_ + 1)) (tSk tSm c n (tSk tBk c n (p_ + 1)))) ≠ 9 by omega)]
            have e0 : ((tKd c (tSk tBk c n (p_ + 1)) (tSk tSm c n (tSk tBk c n (p_ + 1)))).toNat) = 0 := by omega
            rw [e0, tFv_00]
            rcases p150hg with w | w
            · rw [tVz_v.1 w.1]
              exact zxs (by omega) (zxs (by omega) (zxu (by omega) (zxu (by omega) w.2)))
            · rw [tVz_v.2.1 w.1]
              exact zxs (by omega) (zxs (by omega) (zxu (by omega) (zxu (by omega) w.2.1)))))
      | (exfalso; omega)
    · intro h9
      first
      | (exfalso
         rw [show tyL c n s p_ = tyF s p_ from if_pos (by omega)] at h9
         exact tyF_f h9)
      | (rw [show tyL c n s p_ = tyG c n 1 s (tSk tBk c n (p_ + 1)) p_ (tyd s) from if_neg (by omega)] at h9 ⊢
         first
         | (exfalso
            rw [tyG_n w65.1] at h9
            exact tyF_f h9)
         | (rw [tyG_t w65.1] at h9 ⊢
            have em := tSm_s hc w65.1.1
            first
            | (have hx : tuX c n (p_ + 2000 - tyk s) (tyd s) (tSk tSm c n (tSk tBk c n (p_ + 1))) = -1 := by
                 rw [tyB_9 (show (tKd c (tSk tBk c n (p_ + 1)) (tSk tSm c n (tSk tBk c n (p_ + 1)))) = 9 by omega), tkX_1] at h9
                 exact h9
               have y2 := p123bhok hx
               have eb := tuX_b hc hx
               have e9 : v65o.toNat = 9 := by omega
               rw [tyB_u (show (tKd c (tSk tBk c n (p_ + 1)) (tSk tSm c n (tSk tBk c n (p_ + 1)))) = 9 by omega) (tkX_1.trans hx), tkE_1]
               refine ⟨?_, y2.1, zxs (by omega) ((p123bbbfr k 29 (by omega) (by omega) (by omega) (by omega)).trans ((p116bfr k 29 (by omega) (by omega) (by omega) (by omega)).trans (by first | exact zxu (by omega) ((p65bbbfr k 29 (by omega) (by omega) (by omega) (by omega) (by omega) (by omega) (by omega)).trans hdn) | exact (p65bbbfr k 29 (by omega) (by omega) (by omega) (by omega) (by omega) (by omega) (by omega)).trans hdn)))⟩
               first
               | exact zVO_U hs hg (by omega) (hn0_ w65.1 (by omega)) zxe (zVK_fr y2.2 (fun x j h => zxcj (by omega) rfl)) (zxs (by omega) ((p123bbbfr k 16 (by omega) (by omega) (by omega) (by omega)).trans ((p116bfr k 16 (by omega) (by omega) (by omega) (by omega)).trans (zxu (by omega) (p65bbbfr k 16 (by omega) (by omega) (by omega) (by omega) (by omega) (by omega) (by omega)))))) (fun e => ⟨zxu (by omega) ((p123bbbfr (k + 10) e (by omega) (by omega) (by omega) (by omega)).trans ((p116bfr (k + 10) e (by omega) (by omega) (by omega) (by omega)).trans (zxu (by omega) (p65bbbfr (k + 10) e (by omega) (by omega) (by omega) (by omega) (by omega) (by omega) (by omega))))), zxu (by omega) ((p123bbbfr (k + 11) e (by omega) (by omega) (by omega) (by omega)).trans ((p116bfr (k + 11) e (by omega) (by omega) (by omega) (by omega)).trans (zxu (by omega) (p65bbbfr (k + 11) e (by omega) (by omega) (by omega) (by omega) (by omega) (by omega) (by omega)))))⟩)
                   (fun w => ⟨zxu (by omega) ((p123bbbfr (k + 2) _ (by omega) (by omega) (by omega) (by omega)).trans ((p116bfr (k + 2) _ (by omega) (by omega) (by omega) (by omega)).trans (zxu (by omega) ((p65bbhst (by omega) w).1.trans (by omega))))), zxu (by omega) ((p123bbbfr (k + 3) _ (by omega) (by omega) (by omega) (by omega)).trans ((p116bfr (k + 3) _ (by omega) (by omega) (by omega) (by omega)).trans (zxu (by omega) (g65b (by omega) w))))⟩)
                   (fun w => zxu (by omega) ((p123bbbfr (k + 7) _ (by omega) (by omega) (by omega) (by omega)).trans ((p116bfr (k + 7) _ (by omega) (by omega) (by omega) (by omega)).trans (zxe' (by omega))))) (fun w i hi => ((p65bbhst (by omega) w).2.2.2.2 i hi).trans (by rw [e9]))
                   (fun w x j hx hj => zxu (by omega) ((p123bbbfr x j (by omega) (by omega) (by omega) (by omega)).trans ((p116bfr x j (by omega) (by omega) (by omega) (by omega)).trans (zxcj (by omega) (p65bbbfr x j (by omega) (by omega) (by omega) (by omega) (by omega) (by omega) (by omega)))))) (fun w j hj => zxu (by omega) ((p123bbbfr (k + 5) j (by omega) (by omega) (by omega) (by omega)).trans ((p116bfr (k + 5) j (by omega) (by omega) (by omega) (by omega)).trans (zxu (by omega) (p65bbbfr (k + 5) j (by omega) (by omega) (by omega) (by omega) (by omega) (by omega) (by omega)))))) (fun w j hj => zxu (by omega) ((p123bbbfr (k + 6) j (by omega) (by omega) (by omega) (by omega)).trans ((p116bfr (k + 6) j (by omega) (by omega) (by omega) (by omega)).trans (zxu (by omega) (p65bbbfr (k + 6) j (by omega) (by omega) (by omega) (by omega) (by omega) (by omega) (by omega)))))) (fun w j hj => zxu (by omega) ((p123bbbfr (k + 9) j (by omega) (by omega) (by omega) (by omega)).trans ((p116bfr (k + 9) j (by omega) (by omega) (by omega) (by omega)).trans (zxu (by omega) (p65bbbfr (k + 9) j (by omega) (by omega) (by omega) (by omega) (by omega) (by omega) (by omega)))))) (fun w j hj => p65bbbbfrL (k + 4) j (by omega))
               | exact zVO_U hs hg (by omega) (hn0_ w65.1 (by omega)) zxe (zVK_fr y2.2 (fun x j h => zxcj (by omega) rfl)) (zxs (by omega) ((p123bbbfr k 16 (by omega) (by omega) (by omega) (by omega)).trans ((p116bfr k 16 (by omega) (by omega) (by omega) (by omega)).trans (p65bbbfr k 16 (by omega) (by omega) (by omega) (by omega) (by omega) (by omega) (by omega))))) (fun e => ⟨zxu (by omega) ((p123bbbfr (k + 10) e (by omega) (by omega) (by omega) (by omega)).trans ((p116bfr (k + 10) e (by omega) (by omega) (by omega) (by omega)).trans (p65bbbfr (k + 10) e (by omega) (by omega) (by omega) (by omega) (by omega) (by omega) (by omega)))), zxu (by omega) ((p123bbbfr (k + 11) e (by omega) (by omega) (by omega) (by omega)).trans ((p116bfr (k + 11) e (by omega) (by omega) (by omega) (by omega)).trans (p65bbbfr (k + 11) e (by omega) (by omega) (by omega) (by omega) (by omega) (by omega) (by omega))))⟩)
                   (fun w => by exfalso; omega) (fun w => by exfalso; omega) (fun w => by exfalso; omega) (fun w => by exfalso; omega) (fun w => by exfalso; omega) (fun w => by exfalso; omega) (fun w => by exfalso; omega) (fun w => by exfalso; omega))
            | (have hx : tVz c n 1 (tKd c (tSk tBk c n (p_ + 1)) (tSk tSm c n (tSk tBk c n (p_ + 1)))).toNat (tSk tSm c n (tSk tBk c n (p_ + 1))) (tFv (tKd c (tSk tBk c n (p_ + 1)) (tSk tSm c n (tSk tBk c n (p_ + 1)))).toNat (tyx s)) = -1 := by
                 rw [tyB_8 hc em.2.1 (show (tKd c (tSk tBk c n (p_ + 1)) (tSk tSm c n (tSk tBk c n (p_ + 1)))) ≠ 9 by omega)] at h9
                 exact h9
               have y2 := p162bhok hx
               rw [tyB_v (show (tKd c (tSk tBk c n (p_ + 1)) (tSk tSm c n (tSk tBk c n (p_ + 1)))) ≠ 9 by omega) hx (fun w => absurd w (by decide))]
               exact ⟨zVO_O (I1 := I162o) (L1 := L162o) hs hg (a_ := ((tKd c (tSk tBk c n (p_ + 1)) (tSk tSm c n (tSk tBk c n (p_ + 1)))).toNat)) (by omega) (by omega) (Nat.le_refl _) (zxs (by omega) zxe) (zxs (by omega) (zxs (by omega) (zxu (by omega) (zxu (by omega) ((p162bbfr k 22 (by omega) (by omega) (by omega) (by omega) (by omega)).trans ((p65bbbfr k 22 (by omega) (by omega) (by omega) (by omega) (by omega) (by omega) (by omega)).trans s22)))))) ((zxs (by omega) (zxs (by omega) (zxu (by omega) (zxu (by omega) ((p162bbfr k 16 (by omega) (by omega) (by omega) (by omega) (by omega)).trans ((p65bbbfr k 16 (by omega) (by omega) (by omega) (by omega) (by omega) (by omega) (by omega)).trans (s16 (hn0_ w65.1 (by omega))))))))).trans (tXx_f (by omega)).symm)
                   ⟨zxu (by omega) (zxu (by omega) (zxu (by omega) (zxe' (by omega)))), zxu (by omega) (zxu (by omega) ((zxe' (by omega)).trans (by omega)))⟩ (fun e he => ⟨zxu (by omega) (zxu (by omega) (zxu (by omega) (zxs (by omega) ((p162bbfr (k + 10) e (by omega) (by omega) (by omega) (by omega) (by omega)).trans (p65bbbfr (k + 10) e (by omega) (by omega) (by omega) (by omega) (by omega) (by omega) (by omega)))))), zxu (by omega) (zxu (by omega) (zxs (by omega) (zxu (by omega) ((p162bbfr (k + 11) e (by omega) (by omega) (by omega) (by omega) (by omega)).trans (p65bbbfr (k + 11) e (by omega) (by omega) (by omega) (by omega) (by omega) (by omega) (by omega))))))⟩)
                   (fun w => ⟨(p162bbfr (k + 2) _ (by omega) (by omega) (by omega) (by omega) (by omega)).trans ((p65bbhst (by omega) w).1.trans w65.2.1), (p162bbfr (k + 3) _ (by omega) (by omega) (by omega) (by omega) (by omega)).trans (g65b (by omega) w)⟩) (fun w _ => y2.2 w) (fun w i h1 h2 => (p162bbbfrL (k + 4) _ (by omega) (by omega)).trans (((p65bbhst (by omega) w).2.2.2.2 i h2).trans (by rw [w65.2.1]))) (fun w i h1 h2 => (p162bbfr (k + 5) _ (by omega) (by omega) (by omega) (by omega) (by omega)).trans ((p65bbhst (by omega) w).2.2.2.1 i h2))
                   (fun x j h1 h2 => zxu (by omega) (zxu (by omega) (zxu (by omega) (zxu (by omega) rfl)))) (fun j => rfl)
                   (fun w x j hx hj => (p162bbfr x j (by omega) (by omega) (by omega) (by omega) (by omega)).trans (p65bbbfr x j (by omega) (by omega) (by omega) (by omega) (by omega) (by omega) (by omega))) (fun w j hj => (p162bbfr (k + 5) j (by omega) (by omega) (by omega) (by omega) (by omega)).trans (p65bbbfr (k + 5) j (by omega) (by omega) (by omega) (by omega) (by omega) (by omega) (by omega))) (fun w j hj => (p162bbfr (k + 6) j (by omega) (by omega) (by omega) (by omega) (by omega)).trans (p65bbbfr (k + 6) j (by omega) (by omega) (by omega) (by omega) (by omega) (by omega) (by omega))) (fun w j hj => (p162bbfr (k + 9) j (by omega) (by omega) (by omega) (by omega) (by omega)).trans (p65bbbfr (k + 9) j (by omega) (by omega) (by omega) (by omega) (by omega) (by omega) (by omega))) (fun w j hj => (p162bbbfrL (k + 4) j (by omega) (by omega)).trans (p65bbbbfrL (k + 4) j (by omega))), y2.1, zxe.trans (show _ = ((tyd s + 1 : Nat) : Int) by omega)⟩)
            | (have e0 : ((tKd c (tSk tBk c n (p_ + 1)) (tSk tSm c n (tSk tBk c n (p_ + 1)))).toNat) = 0 := by omega
               have hx : tVz c n 1 (tKd c (tSk tBk c n (p_ + 1)) (tSk tSm c n (tSk tBk c n (p_ + 1)))).toNat (tSk tSm c n (tSk tBk c n (p_ + 1))) (tFv (tKd c (tSk tBk c n (p_ + 1)) (tSk tSm c n (tSk tBk c n (p_ + 1)))).toNat (tyx s)) = -1 := by
                 rw [tyB_8 hc em.2.1 (show (tKd c (tSk tBk c n (p_ + 1)) (tSk tSm c n (tSk tBk c n (p_ + 1)))) ≠ 9 by omega)] at h9
                 exact h9
               rw [tyB_v (show (tKd c (tSk tBk c n (p_ + 1)) (tSk tSm c n (tSk tBk c n (p_ + 1)))) ≠ 9 by omega) hx (fun w => absurd w (by decide))]
               have hx2 := hx
               rw [e0, tFv_00] at hx2
               rcases p150hg with w | w
               · exfalso
                 rw [tVz_v.1 w.1] at hx2
                 omega
               · rw [tVz_v.2.1 w.1] at hx2
                 have y2 := w.2.2 hx2
                 have ex : tXx c n 1 ((tKd c (tSk tBk c n (p_ + 1)) (tSk tSm c n (tSk tBk c n (p_ + 1)))).toNat) (tSk tSm c n (tSk tBk c n (p_ + 1))) (tFv (tKd c (tSk tBk c n (p_ + 1)) (tSk tSm c n (tSk tBk c n (p_ + 1)))).toNat (tyx s)) (tyx s) = tNv c n (tGe c n (tSk tSm c n (tSk tBk c n (p_ + 1))) 1) 0 := by
                   rw [e0, tFv_00]
                   exact tVz_v.2.2.2 _
                 have ep : tVp c n 1 (tKd c (tSk tBk c n (p_ + 1)) (tSk tSm c n (tSk tBk c n (p_ + 1)))).toNat (tSk tSm c n (tSk tBk c n (p_ + 1))) (tFv (tKd c (tSk tBk c n (p_ + 1)) (tSk tSm c n (tSk tBk c n (p_ + 1)))).toNat (tyx s)) = tNe c n (tGe c n (tSk tSm c n (tSk tBk c n (p_ + 1))) 1) 0 := by
                   rw [e0, tFv_00]
                   exact tVz_v.2.2.1
                 exact ⟨zVO_O (I1 := I150o) (L1 := L150o) hs hg (a_ := ((tKd c (tSk tBk c n (p_ + 1)) (tSk tSm c n (tSk tBk c n (p_ + 1)))).toNat)) (by omega) (by omega) (Nat.le_refl _) (zxs (by omega) zxe) (zxs (by omega) (zxs (by omega) (zxu (by omega) (zxu (by omega) ((p150bfr k 22 (by omega) (by omega)).trans ((p65bbbfr k 22 (by omega) (by omega) (by omega) (by omega) (by omega) (by omega) (by omega)).trans s22)))))) ((zxs (by omega) (zxs (by omega) (zxu (by omega) (zxu (by omega) y2.2.1)))).trans ex.symm)
                   ⟨zxu (by omega) (zxu (by omega) (zxu (by omega) (zxe' (by omega)))), zxu (by omega) (zxu (by omega) ((zxe' (by omega)).trans (by omega)))⟩ (fun e he => ⟨zxu (by omega) (zxu (by omega) (zxu (by omega) (zxs (by omega) ((p150bfr (k + 10) e (by omega) (by omega)).trans (p65bbbfr (k + 10) e (by omega) (by omega) (by omega) (by omega) (by omega) (by omega) (by omega)))))), zxu (by omega) (zxu (by omega) (zxs (by omega) (zxu (by omega) ((p150bfr (k + 11) e (by omega) (by omega)).trans (p65bbbfr (k + 11) e (by omega) (by omega) (by omega) (by omega) (by omega) (by omega) (by omega))))))⟩)
                   (fun w => ⟨(p150bfr (k + 2) _ (by omega) (by omega)).trans ((p65bbhst (by omega) w).1.trans w65.2.1), (p150bfr (k + 3) _ (by omega) (by omega)).trans (g65b (by omega) w)⟩) (fun w h => absurd e0 h) (fun w i h1 h2 => (p150bbfrL (k + 4) _ (by omega)).trans (((p65bbhst (by omega) w).2.2.2.2 i h2).trans (by rw [w65.2.1]))) (fun w i h1 h2 => (p150bfr (k + 5) _ (by omega) (by omega)).trans ((p65bbhst (by omega) w).2.2.2.1 i h2))
                   (fun x j h1 h2 => zxu (by omega) (zxu (by omega) (zxu (by omega) (zxu (by omega) rfl)))) (fun j => rfl)
                   (fun w x j hx hj => (p150bfr x j (by omega) (by omega)).trans (p65bbbfr x j (by omega) (by omega) (by omega) (by omega) (by omega) (by omega) (by omega))) (fun w j hj => (p150bfr (k + 5) j (by omega) (by omega)).trans (p65bbbfr (k + 5) j (by omega) (by omega) (by omega) (by omega) (by omega) (by omega) (by omega))) (fun w j hj => (p150bfr (k + 6) j (by omega) (by omega)).trans (p65bbbfr (k + 6) j (by omega) (by omega) (by omega) (by omega) (by omega) (by omega) (by omega))) (fun w j hj => (p150bfr (k + 9) j (by omega) (by omega)).trans (p65bbbfr (k + 9) j (by omega) (by omega) (by omega) (by omega) (by omega) (by omega) (by omega))) (fun w j hj => (p150bbfrL (k + 4) j (by omega)).trans (p65bbbbfrL (k + 4) j (by omega))), y2.1.trans (congrArg Nat.cast ep.symm), zxe.trans (show _ = ((tyd s + 1 : Nat) : Int) by omega)⟩)))
      | (exfalso; omega))
