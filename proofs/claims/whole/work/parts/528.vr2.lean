/-! vr2 -/
def T_V_rln : ZT := fun args I L R S Q => ∃ (k : Nat) (c : Nat → Int) (n : Nat) (s : TyS) (mk : Int) (D : Nat) (p : Int) (d : Int), args = [zvr k, zvi p, zvi d] ∧ (zDy zT20 zF20 k R S) ∧ (zRM k c n I) ∧ (tOk c n) ∧ (p = typ s) ∧ (d = D) ∧ (D = tyD c n s ∧ D ≤ tyd s ∧ (D = 0 → typ s = 0) ∧ typ s + D ≤ n) ∧ (zVO k c n 0 mk s I L) ∧ (tyg c n 0 s) ∧ (I k 30 = (tyd s : Int) - 1) ∧ (I k 15 = mk) ∧ (0 ≤ mk ∧ mk ≤ 1) ∧ (I k 18 = -1) ∧ ∀ (v : Int) (I' : ZI) (L' : ZI), (I' k 18 = tyf (tyA c n 0 s)) → (tyf (tyA c n 0 s) = -1 → zVO k c n 0 mk (tyA c n 0 s) I' L' ∧ v = typ (tyA c n 0 s) ∧ I' k 30 = (tyd (tyA c n 0 s) : Int) - 1) → (0 ≤ v ∧ v ≤ 5200) → (∀ c j : Nat, ¬ (c = k ∧ j = 16) → ¬ (c = k ∧ j = 17) → ¬ (c = k ∧ j = 18) → ¬ (c = k ∧ j = 20) → ¬ (c = k ∧ j = 21) → ¬ (c = k ∧ j = 22) → ¬ (c = k ∧ j = 30) → ¬ (c = k + 2 ∧ mk = 1) → ¬ (c = k + 3 ∧ mk = 1) → ¬ (c = k + 5 ∧ mk = 1) → ¬ (c = k + 6 ∧ mk = 1) → ¬ (c = k + 7 ∧ mk = 1) → ¬ (c = k + 8 ∧ mk = 1) → ¬ (c = k + 9 ∧ mk = 1) → ¬ c = k + 10 → ¬ c = k + 11 → I' c j = I c j) → (∀ c j : Nat, ¬ (c = k ∧ j = 28) → ¬ (c = k + 4 ∧ mk = 1) → L' c j = L c j) → Q (some (zvi (v))) I' L' R S
theorem sn_V_rln : ZSnd 6 20 33 T_V_rln := ZSnd.of (zT20_33 5) (by
  rintro args I L R S Q hz ⟨k, c, n, s, mk, D, p, d, rfl, hD, hX, hc, hp, hd, hDx, hs, hg, hls, hmk, hmk2, hf0, hQ⟩
  obtain ⟨x1, x2⟩ := id hX
  have hn4 := hc.1
  have hk40 := hD.1
  obtain ⟨⟨s17, s22, s16⟩, sst, srow⟩ := id hs
  obtain ⟨⟨b1, b2, b3, b4, b5, b6, b7, b8, b9⟩, bst, brow⟩ := id hg
  have b9_ := b9 (by decide)
  have yz := tyz_b hg hDx.2.1
  have hkb := tKd_b (c := c) (p := (typ s + D)) (q := (tSk tSm c n (typ s + D)))
  have tzp := fun h => tyy_p (s := s) (d := D) h
  have yzb : -1 ≤ tyy s D ∧ tyy s D ≤ 199 ∧ -1 ≤ tyz s D ∧ tyz s D ≤ 8 := by rcases yz with z | z <;> omega
  have yz0 : D = 0 → tyz s D = -1 ∧ tyy s D = -1 := fun h => by rcases yz with z | z; exact ⟨z.2.2, z.2.1⟩; (exfalso; omega)
  have hDD : (D = tyD c n s ∧ D ≤ tyd s) ∨ (D = tyd s ∧ tyd s < tyD c n s) := Or.inl ⟨hDx.1, hDx.2.1⟩
  have hD46 : D = tyd s → tyd s < tyD c n s → c (typ s + D) = 46 := fun e w => by exfalso; omega
  have hn0_ : tBg c n (typ s + D) (tyz s D) (tyn s) → (tKd c (typ s + D) (tSk tSm c n (typ s + D))) ≠ 0 → tyn s ≠ 0 := fun w h e => by have z := (yz0 (by omega)).1; have w2 := w.2.1; rw [z] at w2; exact h (tCn_n.mp w2)
  refine And.intro rfl ?_
  refine And.intro (by omega) ⟨fun h7 => ?_, fun h7 => ?_⟩
  · refine And.intro (zDX hD 0 rfl) (zrdR (v := some (k + 11)) (zDR hD 10 rfl) ?_)
    refine And.intro (zDP hD 11 rfl rfl (by omega) (by omega)) (fun v21 e21 r21 => ?_)
    have f21 : v21 = tyr s (tyo s (D - 1)) 0 := (e21.trans ((congrArg (I (k + 11)) (by omega)).trans (sst (D - 1) (by omega)).2))
    refine And.intro (by omega) ⟨fun h23 => ?_, (fun h23 => False.elim (by omega))⟩
    refine And.intro (zDX hD 0 rfl) (zrdR (v := some (k + 10)) (zDR hD 9 rfl) ?_)
    refine And.intro (zDP hD 10 rfl rfl (by omega) (by omega)) (fun v37 e37 r37 => ?_)
    have f37 : v37 = tyo s (D - 1) := (e37.trans ((congrArg (I (k + 10)) (by omega)).trans (sst (D - 1) (by omega)).1))
    refine And.intro (zDX hD 0 rfl) ⟨_, sn_V_beg.up (by decide), ?_⟩
    refine ⟨_, _, _, ((p + d) : Int), (typ s + D), (v21 : Int), (v37 : Int), mk, (tyn s), rfl, hD, (by first | exact (zRM_fr hX (fun c j h => rfl)) | (clear hQ; grind [xu])), (by first | exact hc | (clear hQ; grind [xu])), (by omega), (by omega), (by omega), hmk, (by omega), s17, (by omega), (Eq.trans (b := ((-1) : Int)) hf0 (by omega)), ?_⟩
    intro v38o I38o L38o p38hg p38bhv p38bbhst p38bbbfr p38bbbbfrL
    have g38 : (tBg c n (typ s + D) (tyz s D) (tyn s) ∧ v38o = (tKd c (typ s + D) (tSk tSm c n (typ s + D))) ∧ I38o k 18 = -1 ∧ I38o k 20 = 0 ∧ I38o k 21 = 0) ∨ (¬ tBg c n (typ s + D) (tyz s D) (tyn s) ∧ v38o = -1 ∧ I38o k 18 = (typ s + D)) := (by first | (rw [show tyz s D = v21 by have z := tzp (by omega); omega]; exact p38hg) | (rw [(yz0 (by omega)).1]; exact p38hg))
    have g38b : 0 ≤ v38o → mk = 1 → I38o (k + 3) (tyn s) = tyy s D := (fun e1 e2 => by have z := (p38bbhst e1 e2).2.1; first | (rw [show tyy s D = v37 by have z := tzp (by omega); omega]; exact z) | (rw [(yz0 (by omega)).2]; exact z))
    rcases g38 with w38 | w38
    · refine And.intro ⟨(by omega), (zRb rfl)⟩ ⟨fun h46 => ?_, fun h46 => ?_⟩
      · have t46 : tyn s ≤ 199 ∧ (tSk tSm c n (typ s + D)) ≤ n ∧ (typ s + D) < (tSk tSm c n (typ s + D)) := (by have z := tSm_s hc w38.1.1; have z2 := w38.1.2.2; exact ⟨by omega, z.2.1, z.1⟩)
        refine And.intro (zDX hD 0 rfl) ⟨_, sn_V_nme.up (by decide), ?_⟩
        refine ⟨_, _, _, ((p + d) : Int), (typ s + D), rfl, hD, (by first | exact (zRM_fr hX (fun c j h => ((p38bbbfr c j (by omega) (by omega) (by omega) (by omega) (by omega) (by omega) (by omega)).trans rfl))) | (clear hQ; grind [xu])), (by first | exact hc | (clear hQ; grind [xu])), (by omega), ?_⟩
        intro v53o p53hv
        refine And.intro ⟨(by omega), (zRb rfl)⟩ ⟨fun h62 => ?_, fun h62 => ?_⟩
        · refine And.intro (by omega) ⟨fun h74 => ?_, fun h74 => ?_⟩
          · refine And.intro (zDX hD 0 rfl) ⟨_, sn_V_vals2.up (by decide), ?_⟩
            refine ⟨_, _, _, (v38o : Int), ((tKd c (typ s + D) (tSk tSm c n (typ s + D))).toNat), (v53o : Int), (tSk tSm c n (typ s + D)), (0 : Int), 0, mk, (tyn s), (tyx s), rfl, hD, (by first | exact (zRM_fr hX (fun c j h => ((p38bbbfr c j (by omega) (by omega) (by omega) (by omega) (by omega) (by omega) (by omega)).trans rfl))) | (clear hQ; grind [xu])), (by first | exact hc | (clear hQ; grind [xu])), (by omega), ⟨by omega, by omega⟩, (by omega), ((p38bbbfr k 16 (by omega) (by omega) (by omega) (by omega) (by omega) (by omega) (by omega)).trans (s16 (hn0_ w38.1 (by omega)))), (by omega), ((p38bbbfr k 15 (by omega) (by omega) (by omega) (by omega) (by omega) (by omega) (by omega)).trans hmk), (by omega), ((p38bbbfr k 17 (by omega) (by omega) (by omega) (by omega) (by omega) (by omega) (by omega)).trans s17), (by omega), w38.2.2.2.2, w38.2.2.2.1, (Eq.trans (b := ((-1) : Int)) w38.2.2.1 (by omega)), ?_⟩
            intro v93o I93o L93o p93hf p93bhok p93bbfr p93bbbfrL p93bbbbhvb9
            have g93 : -1 ≤ tVz c n 0 ((tKd c (typ s + D) (tSk tSm c n (typ s + D))).toNat) (tSk tSm c n (typ s + D)) (tFv ((tKd c (typ s + D) (tSk tSm c n (typ s + D))).toNat) (tyx s)) ∧ tVz c n 0 ((tKd c (typ s + D) (tSk tSm c n (typ s + D))).toNat) (tSk tSm c n (typ s + D)) (tFv ((tKd c (typ s + D) (tSk tSm c n (typ s + D))).toNat) (tyx s)) ≤ 9000 := ⟨tVz_ge hc (tSm_s hc w38.1.1).2.1, tVz_le hc (tSm_s hc w38.1.1).2.1⟩
            refine And.intro (zDX hD 0 rfl) ⟨_, sn_V_c.up (by decide), ?_⟩
            refine ⟨_, _, _, (v93o : Int), (v93o).toNat, rfl, hD, (by first | exact (zRM_fr hX (fun c j h => ((p93bbfr c j (by omega) (by omega) (by omega) (by omega) (by omega)).trans ((p38bbbfr c j (by omega) (by omega) (by omega) (by omega) (by omega) (by omega) (by omega)).trans rfl)))) | (clear hQ; grind [xu])), (by first | exact hc | (clear hQ; grind [xu])), (by omega), ?_⟩
            intro v101o p101hv p101bhv2
            refine And.intro ⟨(by omega), (zRb rfl)⟩ ⟨fun h106 => ?_, fun h106 => ?_⟩
            · refine And.intro (zDX hD 0 rfl) (zrdR (v := some (k + 10)) (zDR hD 9 rfl) ?_)
              refine And.intro (zDX hD 0 rfl) (zrd (v := (tyn s)) ((p93bbfr k 17 (by omega) (by omega) (by omega) (by omega) (by omega)).trans ((p38bbbfr k 17 (by omega) (by omega) (by omega) (by omega) (by omega) (by omega) (by omega)).trans s17)) ?_)
              refine And.intro ⟨(by show 40 ≤ _; omega), (zDP hD 10 rfl rfl (by omega) (by omega))⟩ ⟨_, (zWi (by omega)), ?_⟩
              refine And.intro (zDX hD 0 rfl) (zrdR (v := some (k + 11)) (zDR hD 10 rfl) ?_)
              refine And.intro ⟨(by show 40 ≤ _; omega), (zDP hD 11 rfl rfl (by omega) (by omega))⟩ ⟨_, (zWi (by omega)), ?_⟩
              refine And.intro (zDX hD 0 rfl) ⟨_, (zWi (by omega)), ?_⟩
              refine And.intro (zDX hD 0 rfl) (zrd (v := (tyn s)) (zxs (by decide) (zxu (by omega) (zxu (by omega) ((p93bbfr k 17 (by omega) (by omega) (by omega) (by omega) (by omega)).trans ((p38bbbfr k 17 (by omega) (by omega) (by omega) (by omega) (by omega) (by omega) (by omega)).trans s17))))) ?_)
              refine And.intro (zDX hD 0 rfl) ⟨_, (zWi (by omega)), ?_⟩
              refine hQ _ _ _ ?_ ?_ (by omega) (fun c j h0 h1 h2 h3 h4 h5 h6 h7 h8 h9 h10 h11 h12 h13 h14 h15 => (zxcj h1 (zxcj h6 (zxu h15 (zxu h14 ((p93bbfr c j h2 h3 h4 (fun w => h9 ⟨w.1, w.2.1⟩) (fun w => h10 ⟨w.1, w.2.1⟩)).trans ((p38bbbfr c j h2 h3 h4 (fun w => h7 ⟨w.1, w.2.1⟩) (fun w => h8 ⟨w.1, w.2.1⟩) (fun w => h12 ⟨w.1, w.2.1⟩) (fun w => h9 ⟨w.1, w.2.1⟩)).trans rfl))))))) (fun c j h0 h1 => ((p93bbbfrL c j h0 (fun w => h1 ⟨w.1, w.2.1⟩)).trans ((p38bbbbfrL c j (fun w => h1 ⟨w.1, w.2.1⟩)).trans rfl)))
              · first
                | (rw [tyA_nb hDD hDx.2.2.1 w38.1]
                   exact w38.2.2)
                | (rw [tyA_y hDD hD46 hDx.2.2.1 w38.1]
                   have em := tSm_s hc w38.1.1
                   first
                   | (rw [tyB_9 (show (tKd c (typ s + D) (tSk tSm c n (typ s + D))) = 9 by omega), tkX_0]
                      exact p68hf)
                   | (by_cases hz : tVz c n 0 ((tKd c (typ s + D) (tSk tSm c n (typ s + D))).toNat) (tSk tSm c n (typ s + D)) (tFv ((tKd c (typ s + D) (tSk tSm c n (typ s + D))).toNat) (tyx s)) = -1
                      · first
                        | (have y2 := p93bhok hz
                           have e1 : v93o.toNat = (tVp c n 0 ((tKd c (typ s + D) (tSk tSm c n (typ s + D))).toNat) (tSk tSm c n (typ s + D)) (tFv ((tKd c (typ s + D) (tSk tSm c n (typ s + D))).toNat) (tyx s))) := by omega
                           rw [e1] at p101hv
                           first
                           | (rw [tyB_v (show (tKd c (typ s + D) (tSk tSm c n (typ s + D))) ≠ 9 by omega) hz (fun _ => by omega)]
                              exact zxs (by omega) (zxs (by omega) (zxu (by omega) (zxu (by omega) (p93hf.trans hz)))))
                           | (rw [tyB_vn (show (tKd c (typ s + D) (tSk tSm c n (typ s + D))) ≠ 9 by omega) hz (by omega)]
                              exact (zxs (by omega) (zxs (by omega) (zxu (by omega) (zxu (by omega) zxe)))).trans (show _ = (((tVp c n 0 ((tKd c (typ s + D) (tSk tSm c n (typ s + D))).toNat) (tSk tSm c n (typ s + D)) (tFv ((tKd c (typ s + D) (tSk tSm c n (typ s + D))).toNat) (tyx s))) : Nat) : Int) by omega)))
                        | (have y2 := g81bb hz
                           have e1 : v81o.toNat = (tVp c n 0 ((tKd c (typ s + D) (tSk tSm c n (typ s + D))).toNat) (tSk tSm c n (typ s + D)) (tFv ((tKd c (typ s + D) (tSk tSm c n (typ s + D))).toNat) (tyx s))) := by omega
                           rw [e1] at p101hv
                           first
                           | (rw [tyB_v (show (tKd c (typ s + D) (tSk tSm c n (typ s + D))) ≠ 9 by omega) hz (fun _ => by omega)]
                              exact zxs (by omega) (zxs (by omega) (zxu (by omega) (zxu (by omega) (g81b.trans hz)))))
                           | (rw [tyB_vn (show (tKd c (typ s + D) (tSk tSm c n (typ s + D))) ≠ 9 by omega) hz (by omega)]
                              exact (zxs (by omega) (zxs (by omega) (zxu (by omega) (zxu (by omega) zxe)))).trans (show _ = (((tVp c n 0 ((tKd c (typ s + D) (tSk tSm c n (typ s + D))).toNat) (tSk tSm c n (typ s + D)) (tFv ((tKd c (typ s + D) (tSk tSm c n (typ s + D))).toNat) (tyx s))) : Nat) : Int) by omega)))
                      · rw [tyB_vf hc em.2.1 (show (tKd c (typ s + D) (tSk tSm c n (typ s + D))) ≠ 9 by omega) hz]
                        first
                        | exact zxs (by omega) (zxs (by omega) (zxu (by omega) (zxu (by omega) p93hf)))
                        | exact zxs (by omega) (zxs (by omega) (zxu (by omega) (zxu (by omega) g81b)))
                        | (exfalso; omega)))
                | (exfalso; omega)
              · intro h9
                first
                | (exfalso
                   rw [tyA_nb hDD hDx.2.2.1 w38.1] at h9
                   exact tyF_f h9)
                | (rw [tyA_y hDD hD46 hDx.2.2.1 w38.1] at h9 ⊢
                   have em := tSm_s hc w38.1.1
                   first
                   | (have hx : tlX c n (typ s + D + 2000 - tyk s) D (tSk tSm c n (typ s + D)) = -1 := by
                        rw [tyB_9 (show (tKd c (typ s + D) (tSk tSm c n (typ s + D))) = 9 by omega), tkX_0] at h9
                        exact h9
                      have y2 := p68bhok hx
                      have eb := tlX_b hc hx
                      have e9 : v38o.toNat = 9 := by omega
                      rw [tyB_u (show (tKd c (typ s + D) (tSk tSm c n (typ s + D))) = 9 by omega) (tkX_0.trans hx), tkE_0]
                      refine ⟨?_, y2.1, (p68bbbbfr k 30 (by omega) (by omega) (by omega) (by omega) (by omega) (by omega)).trans ((p38bbbfr k 30 (by omega) (by omega) (by omega) (by omega) (by omega) (by omega) (by omega)).trans hls)⟩
                      exact zVO_U hs hg (by omega) (hn0_ w38.1 (by omega)) p68bbhfd9 y2.2.1 ((p68bbbbfr k 16 (by omega) (by omega) (by omega) (by omega) (by omega) (by omega)).trans (p38bbbfr k 16 (by omega) (by omega) (by omega) (by omega) (by omega) (by omega) (by omega))) (fun e => ⟨(p68bbbbfr (k + 10) e (by omega) (by omega) (by omega) (by omega) (by omega) (by omega)).trans (p38bbbfr (k + 10) e (by omega) (by omega) (by omega) (by omega) (by omega) (by omega) (by omega)), (p68bbbbfr (k + 11) e (by omega) (by omega) (by omega) (by omega) (by omega) (by omega)).trans (p38bbbfr (k + 11) e (by omega) (by omega) (by omega) (by omega) (by omega) (by omega) (by omega))⟩)
                        (fun w => ⟨(p68bbbbfr (k + 2) _ (by omega) (by omega) (by omega) (by omega) (by omega) (by omega)).trans ((p38bbhst (by omega) w).1.trans (by omega)), (p68bbbbfr (k + 3) _ (by omega) (by omega) (by omega) (by omega) (by omega) (by omega)).trans (g38b (by omega) w)⟩) y2.2.2 (fun w i hi => ((p38bbhst (by omega) w).2.2.2.2 i hi).trans (by rw [e9]))
                        (fun w x j hx hj => (p68bbbbfr x j (by omega) (by omega) (by omega) (by omega) (by omega) (by omega)).trans (p38bbbfr x j (by omega) (by omega) (by omega) (by omega) (by omega) (by omega) (by omega))) (fun w j hj => (p68bbbbfr (k + 5) j (by omega) (by omega) (by omega) (by omega) (by omega) (by omega)).trans (p38bbbfr (k + 5) j (by omega) (by omega) (by omega) (by omega) (by omega) (by omega) (by omega))) (fun w j hj => (p68bbbbfr (k + 6) j (by omega) (by omega) (by omega) (by omega) (by omega) (by omega)).trans (p38bbbfr (k + 6) j (by omega) (by omega) (by omega) (by omega) (by omega) (by omega) (by omega))) (fun w j hj => (p68bbbbfr (k + 9) j (by omega) (by omega) (by omega) (by omega) (by omega) (by omega)).trans (p38bbbfr (k + 9) j (by omega) (by omega) (by omega) (by omega) (by omega) (by omega) (by omega))) (fun w j hj => p38bbbbfrL (k + 4) j (by omega)))
                   | (by_cases hz : tVz c n 0 ((tKd c (typ s + D) (tSk tSm c n (typ s + D))).toNat) (tSk tSm c n (typ s + D)) (tFv ((tKd c (typ s + D) (tSk tSm c n (typ s + D))).toNat) (tyx s)) = -1
                      · first
                        | (have y3 := p93bhok hz
                           have y2 : v93o = (tVp c n 0 ((tKd c (typ s + D) (tSk tSm c n (typ s + D))).toNat) (tSk tSm c n (typ s + D)) (tFv ((tKd c (typ s + D) (tSk tSm c n (typ s + D))).toNat) (tyx s))) ∧ True := ⟨y3.1, trivial⟩
                           have e1 : v93o.toNat = (tVp c n 0 ((tKd c (typ s + D) (tSk tSm c n (typ s + D))).toNat) (tSk tSm c n (typ s + D)) (tFv ((tKd c (typ s + D) (tSk tSm c n (typ s + D))).toNat) (tyx s))) := by omega
                           rw [e1] at p101hv
                           first
                           | (exfalso
                              rw [tyB_vn (show (tKd c (typ s + D) (tSk tSm c n (typ s + D))) ≠ 9 by omega) hz (by omega)] at h9
                              exact tyF_f h9)
                           | (rw [tyB_v (show (tKd c (typ s + D) (tSk tSm c n (typ s + D))) ≠ 9 by omega) hz (fun _ => by omega)]
                              exact ⟨zVO_O (I1 := I93o) (L1 := L93o) hs hg (a_ := ((tKd c (typ s + D) (tSk tSm c n (typ s + D))).toNat)) (by omega) (by omega) hDx.2.1 zxe (zxs (by omega) (zxs (by omega) (zxu (by omega) (zxu (by omega) ((p93bbfr k 22 (by omega) (by omega) (by omega) (by omega) (by omega)).trans ((p38bbbfr k 22 (by omega) (by omega) (by omega) (by omega) (by omega) (by omega) (by omega)).trans s22)))))) ((zxs (by omega) (zxs (by omega) (zxu (by omega) (zxu (by omega) ((p93bbfr k 16 (by omega) (by omega) (by omega) (by omega) (by omega)).trans ((p38bbbfr k 16 (by omega) (by omega) (by omega) (by omega) (by omega) (by omega) (by omega)).trans (s16 (hn0_ w38.1 (by omega))))))))).trans (tXx_f (by omega)).symm)
                        ⟨zxu (by omega) (zxu (by omega) (zxu (by omega) (zxe' (by omega)))), zxu (by omega) (zxu (by omega) ((zxe' (by omega)).trans (by omega)))⟩ (fun e he => ⟨zxu (by omega) (zxu (by omega) (zxu (by omega) (zxs (by omega) ((p93bbfr (k + 10) e (by omega) (by omega) (by omega) (by omega) (by omega)).trans (p38bbbfr (k + 10) e (by omega) (by omega) (by omega) (by omega) (by omega) (by omega) (by omega)))))), zxu (by omega) (zxu (by omega) (zxs (by omega) (zxu (by omega) ((p93bbfr (k + 11) e (by omega) (by omega) (by omega) (by omega) (by omega)).trans (p38bbbfr (k + 11) e (by omega) (by omega) (by omega) (by omega) (by omega) (by omega) (by omega))))))⟩)
                        (fun w => ⟨(p93bbfr (k + 2) _ (by omega) (by omega) (by omega) (by omega) (by omega)).trans ((p38bbhst (by omega) w).1.trans w38.2.1), (p93bbfr (k + 3) _ (by omega) (by omega) (by omega) (by omega) (by omega)).trans (g38b (by omega) w)⟩) (fun w _ => y3.2 w) (fun w i h1 h2 => (p93bbbfrL (k + 4) _ (by omega) (by omega)).trans (((p38bbhst (by omega) w).2.2.2.2 i h2).trans (by rw [w38.2.1]))) (fun w i h1 h2 => (p93bbfr (k + 5) _ (by omega) (by omega) (by omega) (by omega) (by omega)).trans ((p38bbhst (by omega) w).2.2.2.1 i h2))
                        (fun x j h1 h2 => zxu (by omega) (zxu (by omega) (zxu (by omega) (zxu (by omega) rfl)))) (fun j => rfl)
                        (fun w x j hx hj => (p93bbfr x j (by omega) (by omega) (by omega) (by omega) (by omega)).trans (p38bbbfr x j (by omega) (by omega) (by omega) (by omega) (by omega) (by omega) (by omega))) (fun w j hj => (p93bbfr (k + 5) j (by omega) (by omega) (by omega) (by omega) (by omega)).trans (p38bbbfr (k + 5) j (by omega) (by omega) (by omega) (by omega) (by omega) (by omega) (by omega))) (fun w j hj => (p93bbfr (k + 6) j (by omega) (by omega) (by omega) (by omega) (by omega)).trans (p38bbbfr (k + 6) j (by omega) (by omega) (by omega) (by omega) (by omega) (by omega) (by omega))) (fun w j hj => (p93bbfr (k + 9) j (by omega) (by omega) (by omega) (by omega) (by omega)).trans (p38bbbfr (k + 9) j (by omega) (by omega) (by omega) (by omega) (by omega) (by omega) (by omega))) (fun w j hj => (p93bbbfrL (k + 4) j (by omega) (by omega)).trans (p38bbbbfrL (k + 4) j (by omega))), (by rw [y2.1]; show _ = (((tVp c n 0 ((tKd c (typ s + D) (tSk tSm c n (typ s + D))).toNat) (tSk tSm c n (typ s + D)) (tFv ((tKd c (typ s + D) (tSk tSm c n (typ s + D))).toNat) (tyx s))) + (1 - 0) : Nat) : Int); omega), zxs (by omega) (zxe.trans (show _ = ((D + 1 : Nat) : Int) - 1 by omega))⟩))
                        | (have y2 := g81bb hz
                           have e1 : v81o.toNat = (tVp c n 0 ((tKd c (typ s + D) (tSk tSm c n (typ s + D))).toNat) (tSk tSm c n (typ s + D)) (tFv ((tKd c (typ s + D) (tSk tSm c n (typ s + D))).toNat) (tyx s))) := by omega
                           rw [e1] at p101hv
                           first
                           | (exfalso
                              rw [tyB_vn (show (tKd c (typ s + D) (tSk tSm c n (typ s + D))) ≠ 9 by omega) hz (by omega)] at h9
                              exact tyF_f h9)
                           | (rw [tyB_v (show (tKd c (typ s + D) (tSk tSm c n (typ s + D))) ≠ 9 by omega) hz (fun _ => by omega)]
                              exact ⟨zVO_O (I1 := I81o) (L1 := L81o) hs hg (a_ := ((tKd c (typ s + D) (tSk tSm c n (typ s + D))).toNat)) (by omega) (by omega) hDx.2.1 zxe (zxs (by omega) (zxs (by omega) (zxu (by omega) (zxu (by omega) ((p81bfr k 22 (by omega) (by omega)).trans ((p38bbbfr k 22 (by omega) (by omega) (by omega) (by omega) (by omega) (by omega) (by omega)).trans s22)))))) (zxs (by omega) (zxs (by omega) (zxu (by omega) (zxu (by omega) y2.2))))
                        ⟨zxu (by omega) (zxu (by omega) (zxu (by omega) (zxe' (by omega)))), zxu (by omega) (zxu (by omega) ((zxe' (by omega)).trans (by omega)))⟩ (fun e he => ⟨zxu (by omega) (zxu (by omega) (zxu (by omega) (zxs (by omega) ((p81bfr (k + 10) e (by omega) (by omega)).trans (p38bbbfr (k + 10) e (by omega) (by omega) (by omega) (by omega) (by omega) (by omega) (by omega)))))), zxu (by omega) (zxu (by omega) (zxs (by omega) (zxu (by omega) ((p81bfr (k + 11) e (by omega) (by omega)).trans (p38bbbfr (k + 11) e (by omega) (by omega) (by omega) (by omega) (by omega) (by omega) (by omega))))))⟩)
                        (fun w => ⟨(p81bfr (k + 2) _ (by omega) (by omega)).trans ((p38bbhst (by omega) w).1.trans w38.2.1), (p81bfr (k + 3) _ (by omega) (by omega)).trans (g38b (by omega) w)⟩) (fun w h => absurd (by omega) h) (fun w i h1 h2 => (p81bbfrL (k + 4) _ (by omega)).trans (((p38bbhst (by omega) w).2.2.2.2 i h2).trans (by rw [w38.2.1]))) (fun w i h1 h2 => (p81bfr (k + 5) _ (by omega) (by omega)).trans ((p38bbhst (by omega) w).2.2.2.1 i h2))
                        (fun x j h1 h2 => zxu (by omega) (zxu (by omega) (zxu (by omega) (zxu (by omega) rfl)))) (fun j => rfl)
                        (fun w x j hx hj => (p81bfr x j (by omega) (by omega)).trans (p38bbbfr x j (by omega) (by omega) (by omega) (by omega) (by omega) (by omega) (by omega))) (fun w j hj => (p81bfr (k + 5) j (by omega) (by omega)).trans (p38bbbfr (k + 5) j (by omega) (by omega) (by omega) (by omega) (by omega) (by omega) (by omega))) (fun w j hj => (p81bfr (k + 6) j (by omega) (by omega)).trans (p38bbbfr (k + 6) j (by omega) (by omega) (by omega) (by omega) (by omega) (by omega) (by omega))) (fun w j hj => (p81bfr (k + 9) j (by omega) (by omega)).trans (p38bbbfr (k + 9) j (by omega) (by omega) (by omega) (by omega) (by omega) (by omega) (by omega))) (fun w j hj => (p81bbfrL (k + 4) j (by omega)).trans (p38bbbbfrL (k + 4) j (by omega))), (by rw [y2.1]; show _ = (((tVp c n 0 ((tKd c (typ s + D) (tSk tSm c n (typ s + D))).toNat) (tSk tSm c n (typ s + D)) (tFv ((tKd c (typ s + D) (tSk tSm c n (typ s + D))).toNat) (tyx s))) + (1 - 0) : Nat) : Int); omega), zxs (by omega) (zxe.trans (show _ = ((D + 1 : Nat) : Int) - 1 by omega))⟩))
                      · exfalso
                        rw [tyB_vf hc em.2.1 (show (tKd c (typ s + D) (tSk tSm c n (typ s + D))) ≠ 9 by omega) hz] at h9
                        exact hz h9))
                | (exfalso; omega)
            · refine And.intro (zDX hD 0 rfl) (Exists.intro _ (And.intro (zinl_ok (zT20_9 4)) (And.intro rfl ?_)))
              refine And.intro (zDX hD 0 rfl) (zrd (v := (tVz c n 0 ((tKd c (typ s + D) (tSk tSm c n (typ s + D))).toNat) (tSk tSm c n (typ s + D)) (tFv ((tKd c (typ s + D) (tSk tSm c n (typ s + D))).toNat) (tyx s)))) p93hf ?_)
              refine And.intro ⟨(by omega), (zRb rfl)⟩ ⟨fun h5_112 => ?_, fun h5_112 => ?_⟩
              · refine And.intro (zDX hD 0 rfl) (zrdR (v := some (k + 10)) (zDR hD 9 rfl) ?_)
                refine And.intro (zDX hD 0 rfl) (zrd (v := (tyn s)) ((p93bbfr k 17 (by omega) (by omega) (by omega) (by omega) (by omega)).trans ((p38bbbfr k 17 (by omega) (by omega) (by omega) (by omega) (by omega) (by omega) (by omega)).trans s17)) ?_)
                refine And.intro ⟨(by show 40 ≤ _; omega), (zDP hD 10 rfl rfl (by omega) (by omega))⟩ ⟨_, (zWi (by omega)), ?_⟩
                refine And.intro (zDX hD 0 rfl) (zrdR (v := some (k + 11)) (zDR hD 10 rfl) ?_)
                refine And.intro ⟨(by show 40 ≤ _; omega), (zDP hD 11 rfl rfl (by omega) (by omega))⟩ ⟨_, (zWi (by omega)), ?_⟩
                refine And.intro (zDX hD 0 rfl) ⟨_, (zWi (by omega)), ?_⟩
                refine And.intro (zDX hD 0 rfl) (zrd (v := (tyn s)) (zxs (by decide) (zxu (by omega) (zxu (by omega) ((p93bbfr k 17 (by omega) (by omega) (by omega) (by omega) (by omega)).trans ((p38bbbfr k 17 (by omega) (by omega) (by omega) (by omega) (by omega) (by omega) (by omega)).trans s17))))) ?_)
                refine And.intro (zDX hD 0 rfl) ⟨_, (zWi (by omega)), ?_⟩
                refine hQ _ _ _ ?_ ?_ (by omega) (fun c j h0 h1 h2 h3 h4 h5 h6 h7 h8 h9 h10 h11 h12 h13 h14 h15 => (zxcj h1 (zxcj h6 (zxu h15 (zxu h14 ((p93bbfr c j h2 h3 h4 (fun w => h9 ⟨w.1, w.2.1⟩) (fun w => h10 ⟨w.1, w.2.1⟩)).trans ((p38bbbfr c j h2 h3 h4 (fun w => h7 ⟨w.1, w.2.1⟩) (fun w => h8 ⟨w.1, w.2.1⟩) (fun w => h12 ⟨w.1, w.2.1⟩) (fun w => h9 ⟨w.1, w.2.1⟩)).trans rfl))))))) (fun c j h0 h1 => ((p93bbbfrL c j h0 (fun w => h1 ⟨w.1, w.2.1⟩)).trans ((p38bbbbfrL c j (fun w => h1 ⟨w.1, w.2.1⟩)).trans rfl)))
                · first
                  | (rw [tyA_nb hDD hDx.2.2.1 w38.1]
                     exact w38.2.2)
                  | (rw [tyA_y hDD hD46 hDx.2.2.1 w38.1]
                     have em := tSm_s hc w38.1.1
                     first
                     | (rw [tyB_9 (show (tKd c (typ s + D) (tSk tSm c n (typ s + D))) = 9 by omega), tkX_0]
                        exact p68hf)
                     | (by_cases hz : tVz c n 0 ((tKd c (typ s + D) (tSk tSm c n (typ s + D))).toNat) (tSk tSm c n (typ s + D)) (tFv ((tKd c (typ s + D) (tSk tSm c n (typ s + D))).toNat) (tyx s)) = -1
                        · first
                          | (have y2 := p93bhok hz
                             have e1 : v93o.toNat = (tVp c n 0 ((tKd c (typ s + D) (tSk tSm c n (typ s + D))).toNat) (tSk tSm c n (typ s + D)) (tFv ((tKd c (typ s + D) (tSk tSm c n (typ s + D))).toNat) (tyx s))) := by omega
                             rw [e1] at p101hv
                             first
                             | (rw [tyB_v (show (tKd c (typ s + D) (tSk tSm c n (typ s + D))) ≠ 9 by omega) hz (fun _ => by omega)]
                                exact zxs (by omega) (zxs (by omega) (zxu (by omega) (zxu (by omega) (p93hf.trans hz)))))
                             | (rw [tyB_vn (show (tKd c (typ s + D) (tSk tSm c n (typ s + D))) ≠ 9 by omega) hz (by omega)]
                                exact (zxs (by omega) (zxs (by omega) (zxu (by omega) (zxu (by omega) zxe)))).trans (show _ = (((tVp c n 0 ((tKd c (typ s + D) (tSk tSm c n (typ s + D))).toNat) (tSk tSm c n (typ s + D)) (tFv ((tKd c (typ s + D) (tSk tSm c n (typ s + D))).toNat) (tyx s))) : Nat) : Int) by omega)))
                          | (have y2 := g81bb hz
                             have e1 : v81o.toNat = (tVp c n 0 ((tKd c (typ s + D) (tSk tSm c n (typ s + D))).toNat) (tSk tSm c n (typ s + D)) (tFv ((tKd c (typ s + D) (tSk tSm c n (typ s + D))).toNat) (tyx s))) := by omega
                             rw [e1] at p101hv
                             first
                             | (rw [tyB_v (show (tKd c (typ s + D) (tSk tSm c n (typ s + D))) ≠ 9 by omega) hz (fun _ => by omega)]
                                exact zxs (by omega) (zxs (by omega) (zxu (by omega) (zxu (by omega) (g81b.trans hz)))))
                             | (rw [tyB_vn (show (tKd c (typ s + D) (tSk tSm c n (typ s + D))) ≠ 9 by omega) hz (by omega)]
                                exact (zxs (by omega) (zxs (by omega) (zxu (by omega) (zxu (by omega) zxe)))).trans (show _ = (((tVp c n 0 ((tKd c (typ s + D) (tSk tSm c n (typ s + D))).toNat) (tSk tSm c n (typ s + D)) (tFv ((tKd c (typ s + D) (tSk tSm c n (typ s + D))).toNat) (tyx s))) : Nat) : Int) by omega)))
                        · rw [tyB_vf hc em.2.1 (show (tKd c (typ s + D) (tSk tSm c n (typ s + D))) ≠ 9 by omega) hz]
                          first
                          | exact zxs (by omega) (zxs (by omega) (zxu (by omega) (zxu (by omega) p93hf)))
                          | exact zxs (by omega) (zxs (by omega) (zxu (by omega) (zxu (by omega) g81b)))
                          | (exfalso; omega)))
                  | (exfalso; omega)
                · intro h9
                  first
                  | (exfalso
                     rw [tyA_nb hDD hDx.2.2.1 w38.1] at h9
                     exact tyF_f h9)
                  | (rw [tyA_y hDD hD46 hDx.2.2.1 w38.1] at h9 ⊢
                     have em := tSm_s hc w38.1.1
                     first
                     | (have hx : tlX c n (typ s + D + 2000 - tyk s) D (tSk tSm c n (typ s + D)) = -1 := by
                          rw [tyB_9 (show (tKd c (typ s + D) (tSk tSm c n (typ s + D))) = 9 by omega), tkX_0] at h9
                          exact h9
                        have y2 := p68bhok hx
                        have eb := tlX_b hc hx
                        have e9 : v38o.toNat = 9 := by omega
                        rw [tyB_u (show (tKd c (typ s + D) (tSk tSm c n (typ s + D))) = 9 by omega) (tkX_0.trans hx), tkE_0]
                        refine ⟨?_, y2.1, (p68bbbbfr k 30 (by omega) (by omega) (by omega) (by omega) (by omega) (by omega)).trans ((p38bbbfr k 30 (by omega) (by omega) (by omega) (by omega) (by omega) (by omega) (by omega)).trans hls)⟩
                        exact zVO_U hs hg (by omega) (hn0_ w38.1 (by omega)) p68bbhfd9 y2.2.1 ((p68bbbbfr k 16 (by omega) (by omega) (by omega) (by omega) (by omega) (by omega)).trans (p38bbbfr k 16 (by omega) (by omega) (by omega) (by omega) (by omega) (by omega) (by omega))) (fun e => ⟨(p68bbbbfr (k + 10) e (by omega) (by omega) (by omega) (by omega) (by omega) (by omega)).trans (p38bbbfr (k + 10) e (by omega) (by omega) (by omega) (by omega) (by omega) (by omega) (by omega)), (p68bbbbfr (k + 11) e (by omega) (by omega) (by omega) (by omega) (by omega) (by omega)).trans (p38bbbfr (k + 11) e (by omega) (by omega) (by omega) (by omega) (by omega) (by omega) (by omega))⟩)
                          (fun w => ⟨(p68bbbbfr (k + 2) _ (by omega) (by omega) (by omega) (by omega) (by omega) (by omega)).trans ((p38bbhst (by omega) w).1.trans (by omega)), (p68bbbbfr (k + 3) _ (by omega) (by omega) (by omega) (by omega) (by omega) (by omega)).trans (g38b (by omega) w)⟩) y2.2.2 (fun w i hi => ((p38bbhst (by omega) w).2.2.2.2 i hi).trans (by rw [e9]))
                          (fun w x j hx hj => (p68bbbbfr x j (by omega) (by omega) (by omega) (by omega) (by omega) (by omega)).trans (p38bbbfr x j (by omega) (by omega) (by omega) (by omega) (by omega) (by omega) (by omega))) (fun w j hj => (p68bbbbfr (k + 5) j (by omega) (by omega) (by omega) (by omega) (by omega) (by omega)).trans (p38bbbfr (k + 5) j (by omega) (by omega) (by omega) (by omega) (by omega) (by omega) (by omega))) (fun w j hj => (p68bbbbfr (k + 6) j (by omega) (by omega) (by omega) (by omega) (by omega) (by omega)).trans (p38bbbfr (k + 6) j (by omega) (by omega) (by omega) (by omega) (by omega) (by omega) (by omega))) (fun w j hj => (p68bbbbfr (k + 9) j (by omega) (by omega) (by omega) (by omega) (by omega) (by omega)).trans (p38bbbfr (k + 9) j (by omega) (by omega) (by omega) (by omega) (by omega) (by omega) (by omega))) (fun w j hj => p38bbbbfrL (k + 4) j (by omega)))
                     | (by_cases hz : tVz c n 0 ((tKd c (typ s + D) (tSk tSm c n (typ s + D))).toNat) (tSk tSm c n (typ s + D)) (tFv ((tKd c (typ s + D) (tSk tSm c n (typ s + D))).toNat) (tyx s)) = -1
                        · first
                          | (have y3 := p93bhok hz
                             have y2 : v93o = (tVp c n 0 ((tKd c (typ s + D) (tSk tSm c n (typ s + D))).toNat) (tSk tSm c n (typ s + D)) (tFv ((tKd c (typ s + D) (tSk tSm c n (typ s + D))).toNat) (tyx s))) ∧ True := ⟨y3.1, trivial⟩
                             have e1 : v93o.toNat = (tVp c n 0 ((tKd c (typ s + D) (tSk tSm c n (typ s + D))).toNat) (tSk tSm c n (typ s + D)) (tFv ((tKd c (typ s + D) (tSk tSm c n (typ s + D))).toNat) (tyx s))) := by omega
                             rw [e1] at p101hv
                             first
                             | (exfalso
                                rw [tyB_vn (show (tKd c (typ s + D) (tSk tSm c n (typ s + D))) ≠ 9 by omega) hz (by omega)] at h9
                                exact tyF_f h9)
                             | (rw [tyB_v (show (tKd c (typ s + D) (tSk tSm c n (typ s + D))) ≠ 9 by omega) hz (fun _ => by omega)]
                                exact ⟨zVO_O (I1 := I93o) (L1 := L93o) hs hg (a_ := ((tKd c (typ s + D) (tSk tSm c n (typ s + D))).toNat)) (by omega) (by omega) hDx.2.1 zxe (zxs (by omega) (zxs (by omega) (zxu (by omega) (zxu (by omega) ((p93bbfr k 22 (by omega) (by omega) (by omega) (by omega) (by omega)).trans ((p38bbbfr k 22 (by omega) (by omega) (by omega) (by omega) (by omega) (by omega) (by omega)).trans s22)))))) ((zxs (by omega) (zxs (by omega) (zxu (by omega) (zxu (by omega) ((p93bbfr k 16 (by omega) (by omega) (by omega) (by omega) (by omega)).trans ((p38bbbfr k 16 (by omega) (by omega) (by omega) (by omega) (by omega) (by omega) (by omega)).trans (s16 (hn0_ w38.1 (by omega))))))))).trans (tXx_f (by omega)).symm)
                          ⟨zxu (by omega) (zxu (by omega) (zxu (by omega) (zxe' (by omega)))), zxu (by omega) (zxu (by omega) ((zxe' (by omega)).trans (by omega)))⟩ (fun e he => ⟨zxu (by omega) (zxu (by omega) (zxu (by omega) (zxs (by omega) ((p93bbfr (k + 10) e (by omega) (by omega) (by omega) (by omega) (by omega)).trans (p38bbbfr (k + 10) e (by omega) (by omega) (by omega) (by omega) (by omega) (by omega) (by omega)))))), zxu (by omega) (zxu (by omega) (zxs (by omega) (zxu (by omega) ((p93bbfr (k + 11) e (by omega) (by omega) (by omega) (by omega) (by omega)).trans (p38bbbfr (k + 11) e (by omega) (by omega) (by omega) (by omega) (by omega) (by omega) (by omega))))))⟩)
                          (fun w => ⟨(p93bbfr (k + 2) _ (by omega) (by omega) (by omega) (by omega) (by omega)).trans ((p38bbhst (by omega) w).1.trans w38.2.1), (p93bbfr (k + 3) _ (by omega) (by omega) (by omega) (by omega) (by omega)).trans (g38b (by omega) w)⟩) (fun w _ => y3.2 w) (fun w i h1 h2 => (p93bbbfrL (k + 4) _ (by omega) (by omega)).trans (((p38bbhst (by omega) w).2.2.2.2 i h2).trans (by rw [w38.2.1]))) (fun w i h1 h2 => (p93bbfr (k + 5) _ (by omega) (by omega) (by omega) (by omega) (by omega)).trans ((p38bbhst (by omega) w).2.2.2.1 i h2))
                          (fun x j h1 h2 => zxu (by omega) (zxu (by omega) (zxu (by omega) (zxu (by omega) rfl)))) (fun j => rfl)
                          (fun w x j hx hj => (p93bbfr x j (by omega) (by omega) (by omega) (by omega) (by omega)).trans (p38bbbfr x j (by omega) (by omega) (by omega) (by omega) (by omega) (by omega) (by omega))) (fun w j hj => (p93bbfr (k + 5) j (by omega) (by omega) (by omega) (by omega) (by omega)).trans (p38bbbfr (k + 5) j (by omega) (by omega) (by omega) (by omega) (by omega) (by omega) (by omega))) (fun w j hj => (p93bbfr (k + 6) j (by omega) (by omega) (by omega) (by omega) (by omega)).trans (p38bbbfr (k + 6) j (by omega) (by omega) (by omega) (by omega) (by omega) (by omega) (by omega))) (fun w j hj => (p93bbfr (k + 9) j (by omega) (by omega) (by omega) (by omega) (by omega)).trans (p38bbbfr (k + 9) j (by omega) (by omega) (by omega) (by omega) (by omega) (by omega) (by omega))) (fun w j hj => (p93bbbfrL (k + 4) j (by omega) (by omega)).trans (p38bbbbfrL (k + 4) j (by omega))), (by rw [y2.1]; show _ = (((tVp c n 0 ((tKd c (typ s + D) (tSk tSm c n (typ s + D))).toNat) (tSk tSm c n (typ s + D)) (tFv ((tKd c (typ s + D) (tSk tSm c n (typ s + D))).toNat) (tyx s))) + (1 - 0) : Nat) : Int); omega), zxs (by omega) (zxe.trans (show _ = ((D + 1 : Nat) : Int) - 1 by omega))⟩))
                          | (have y2 := g81bb hz
                             have e1 : v81o.toNat = (tVp c n 0 ((tKd c (typ s + D) (tSk tSm c n (typ s + D))).toNat) (tSk tSm c n (typ s + D)) (tFv ((tKd c (typ s + D) (tSk tSm c n (typ s + D))).toNat) (tyx s))) := by omega
                             rw [e1] at p101hv
                             first
                             | (exfalso
                                rw [tyB_vn (show (tKd c (typ s + D) (tSk tSm c n (typ s + D))) ≠ 9 by omega) hz (by omega)] at h9
                                exact tyF_f h9)
                             | (rw [tyB_v (show (tKd c (typ s + D) (tSk tSm c n (typ s + D))) ≠ 9 by omega) hz (fun _ => by omega)]
                                exact ⟨zVO_O (I1 := I81o) (L1 := L81o) hs hg (a_ := ((tKd c (typ s + D) (tSk tSm c n (typ s + D))).toNat)) (by omega) (by omega) hDx.2.1 zxe (zxs (by omega) (zxs (by omega) (zxu (by omega) (zxu (by omega) ((p81bfr k 22 (by omega) (by omega)).trans ((p38bbbfr k 22 (by omega) (by omega) (by omega) (by omega) (by omega) (by omega) (by omega)).trans s22)))))) (zxs (by omega) (zxs (by omega) (zxu (by omega) (zxu (by omega) y2.2))))
                          ⟨zxu (by omega) (zxu (by omega) (zxu (by omega) (zxe' (by omega)))), zxu (by omega) (zxu (by omega) ((zxe' (by omega)).trans (by omega)))⟩ (fun e he => ⟨zxu (by omega) (zxu (by omega) (zxu (by omega) (zxs (by omega) ((p81bfr (k + 10) e (by omega) (by omega)).trans (p38bbbfr (k + 10) e (by omega) (by omega) (by omega) (by omega) (by omega) (by omega) (by omega)))))), zxu (by omega) (zxu (by omega) (zxs (by omega) (zxu (by omega) ((p81bfr (k + 11) e (by omega) (by omega)).trans (p38bbbfr (k + 11) e (by omega) (by omega) (by omega) (by omega) (by omega) (by omega) (by omega))))))⟩)
                          (fun w => ⟨(p81bfr (k + 2) _ (by omega) (by omega)).trans ((p38bbhst (by omega) w).1.trans w38.2.1), (p81bfr (k + 3) _ (by omega) (by omega)).trans (g38b (by omega) w)⟩) (fun w h => absurd (by omega) h) (fun w i h1 h2 => (p81bbfrL (k + 4) _ (by omega)).trans (((p38bbhst (by omega) w).2.2.2.2 i h2).trans (by rw [w38.2.1]))) (fun w i h1 h2 => (p81bfr (k + 5) _ (by omega) (by omega)).trans ((p38bbhst (by omega) w).2.2.2.1 i h2))
                          (fun x j h1 h2 => zxu (by omega) (zxu (by omega) (zxu (by omega) (zxu (by omega) rfl)))) (fun j => rfl)
                          (fun w x j hx hj => (p81bfr x j (by omega) (by omega)).trans (p38bbbfr x j (by omega) (by omega) (by omega) (by omega) (by omega) (by omega) (by omega))) (fun w j hj => (p81bfr (k + 5) j (by omega) (by omega)).trans (p38bbbfr (k + 5) j (by omega) (by omega) (by omega) (by omega) (by omega) (by omega) (by omega))) (fun w j hj => (p81bfr (k + 6) j (by omega) (by omega)).trans (p38bbbfr (k + 6) j (by omega) (by omega) (by omega) (by omega) (by omega) (by omega) (by omega))) (fun w j hj => (p81bfr (k + 9) j (by omega) (by omega)).trans (p38bbbfr (k + 9) j (by omega) (by omega) (by omega) (by omega) (by omega) (by omega) (by omega))) (fun w j hj => (p81bbfrL (k + 4) j (by omega)).trans (p38bbbbfrL (k + 4) j (by omega))), (by rw [y2.1]; show _ = (((tVp c n 0 ((tKd c (typ s + D) (tSk tSm c n (typ s + D))).toNat) (tSk tSm c n (typ s + D)) (tFv ((tKd c (typ s + D) (tSk tSm c n (typ s + D))).toNat) (tyx s))) + (1 - 0) : Nat) : Int); omega), zxs (by omega) (zxe.trans (show _ = ((D + 1 : Nat) : Int) - 1 by omega))⟩))
                        · exfalso
                          rw [tyB_vf hc em.2.1 (show (tKd c (typ s + D) (tSk tSm c n (typ s + D))) ≠ 9 by omega) hz] at h9
                          exact hz h9))
                  | (exfalso; omega)
              · refine And.intro (zDX hD 0 rfl) ⟨_, (zWi (by omega)), ?_⟩
                refine And.intro (zDX hD 0 rfl) (zrdR (v := some (k + 10)) (zDR hD 9 rfl) ?_)
                refine And.intro (zDX hD 0 rfl) (zrd (v := (tyn s)) (zxs (by decide) ((p93bbfr k 17 (by omega) (by omega) (by omega) (by omega) (by omega)).trans ((p38bbbfr k 17 (by omega) (by omega) (by omega) (by omega) (by omega) (by omega) (by omega)).trans s17))) ?_)
                refine And.intro ⟨(by show 40 ≤ _; omega), (zDP hD 10 rfl rfl (by omega) (by omega))⟩ ⟨_, (zWi (by omega)), ?_⟩
                refine And.intro (zDX hD 0 rfl) (zrdR (v := some (k + 11)) (zDR hD 10 rfl) ?_)
                refine And.intro ⟨(by show 40 ≤ _; omega), (zDP hD 11 rfl rfl (by omega) (by omega))⟩ ⟨_, (zWi (by omega)), ?_⟩
                refine And.intro (zDX hD 0 rfl) ⟨_, (zWi (by omega)), ?_⟩
                refine And.intro (zDX hD 0 rfl) (zrd (v := (tyn s)) (zxs (by decide) (zxu (by omega) (zxu (by omega) (zxs (by decide) ((p93bbfr k 17 (by omega) (by omega) (by omega) (by omega) (by omega)).trans ((p38bbbfr k 17 (by omega) (by omega) (by omega) (by omega) (by omega) (by omega) (by omega)).trans s17)))))) ?_)
                refine And.intro (zDX hD 0 rfl) ⟨_, (zWi (by omega)), ?_⟩
                refine hQ _ _ _ ?_ ?_ (by omega) (fun c j h0 h1 h2 h3 h4 h5 h6 h7 h8 h9 h10 h11 h12 h13 h14 h15 => (zxcj h1 (zxcj h6 (zxu h15 (zxu h14 (zxcj h2 ((p93bbfr c j h2 h3 h4 (fun w => h9 ⟨w.1, w.2.1⟩) (fun w => h10 ⟨w.1, w.2.1⟩)).trans ((p38bbbfr c j h2 h3 h4 (fun w => h7 ⟨w.1, w.2.1⟩) (fun w => h8 ⟨w.1, w.2.1⟩) (fun w => h12 ⟨w.1, w.2.1⟩) (fun w => h9 ⟨w.1, w.2.1⟩)).trans rfl)))))))) (fun c j h0 h1 => ((p93bbbfrL c j h0 (fun w => h1 ⟨w.1, w.2.1⟩)).trans ((p38bbbbfrL c j (fun w => h1 ⟨w.1, w.2.1⟩)).trans rfl)))
                · first
                  | (rw [tyA_nb hDD hDx.2.2.1 w38.1]
                     exact w38.2.2)
                  | (rw [tyA_y hDD hD46 hDx.2.2.1 w38.1]
                     have em := tSm_s hc w38.1.1
                     first
                     | (rw [tyB_9 (show (tKd c (typ s + D) (tSk tSm c n (typ s + D))) = 9 by omega), tkX_0]
                        exact p68hf)
                     | (by_cases hz : tVz c n 0 ((tKd c (typ s + D) (tSk tSm c n (typ s + D))).toNat) (tSk tSm c n (typ s + D)) (tFv ((tKd c (typ s + D) (tSk tSm c n (typ s + D))).toNat) (tyx s)) = -1
                        · first
                          | (have y2 := p93bhok hz
                             have e1 : v93o.toNat = (tVp c n 0 ((tKd c (typ s + D) (tSk tSm c n (typ s + D))).toNat) (tSk tSm c n (typ s + D)) (tFv ((tKd c (typ s + D) (tSk tSm c n (typ s + D))).toNat) (tyx s))) := by omega
                             rw [e1] at p101hv
                             first
                             | (rw [tyB_v (show (tKd c (typ s + D) (tSk tSm c n (typ s + D))) ≠ 9 by omega) hz (fun _ => by omega)]
                                exact zxs (by omega) (zxs (by omega) (zxu (by omega) (zxu (by omega) (p93hf.trans hz)))))
                             | (rw [tyB_vn (show (tKd c (typ s + D) (tSk tSm c n (typ s + D))) ≠ 9 by omega) hz (by omega)]
                                exact (zxs (by omega) (zxs (by omega) (zxu (by omega) (zxu (by omega) zxe)))).trans (show _ = (((tVp c n 0 ((tKd c (typ s + D) (tSk tSm c n (typ s + D))).toNat) (tSk tSm c n (typ s + D)) (tFv ((tKd c (typ s + D) (tSk tSm c n (typ s + D))).toNat) (tyx s))) : Nat) : Int) by omega)))
                          | (have y2 := g81bb hz
                             have e1 : v81o.toNat = (tVp c n 0 ((tKd c (typ s + D) (tSk tSm c n (typ s + D))).toNat) (tSk tSm c n (typ s + D)) (tFv ((tKd c (typ s + D) (tSk tSm c n (typ s + D))).toNat) (tyx s))) := by omega
                             rw [e1] at p101hv
                             first
                             | (rw [tyB_v (show (tKd c (typ s + D) (tSk tSm c n (typ s + D))) ≠ 9 by omega) hz (fun _ => by omega)]
                                exact zxs (by omega) (zxs (by omega) (zxu (by omega) (zxu (by omega) (g81b.trans hz)))))
                             | (rw [tyB_vn (show (tKd c (typ s + D) (tSk tSm c n (typ s + D))) ≠ 9 by omega) hz (by omega)]
                                exact (zxs (by omega) (zxs (by omega) (zxu (by omega) (zxu (by omega) zxe)))).trans (show _ = (((tVp c n 0 ((tKd c (typ s + D) (tSk tSm c n (typ s + D))).toNat) (tSk tSm c n (typ s + D)) (tFv ((tKd c (typ s + D) (tSk tSm c n (typ s + D))).toNat) (tyx s))) : Nat) : Int) by omega)))
                        · rw [tyB_vf hc em.2.1 (show (tKd c (typ s + D) (tSk tSm c n (typ s + D))) ≠ 9 by omega) hz]
                          first
                          | exact zxs (by omega) (zxs (by omega) (zxu (by omega) (zxu (by omega) p93hf)))
                          | exact zxs (by omega) (zxs (by omega) (zxu (by omega) (zxu (by omega) g81b)))
                          | (exfalso; omega)))
                  | (exfalso; omega)
                · intro h9
                  first
                  | (exfalso
                     rw [tyA_nb hDD hDx.2.2.1 w38.1] at h9
                     exact tyF_f h9)
                  | (rw [tyA_y hDD hD46 hDx.2.2.1 w38.1] at h9 ⊢
                     have em := tSm_s hc w38.1.1
                     first
                     | (have hx : tlX c n (typ s + D + 2000 - tyk s) D (tSk tSm c n (typ s + D)) = -1 := by
                          rw [tyB_9 (show (tKd c (typ s + D) (tSk tSm c n (typ s + D))) = 9 by omega), tkX_0] at h9
                          exact h9
                        have y2 := p68bhok hx
                        have eb := tlX_b hc hx
                        have e9 : v38o.toNat = 9 := by omega
                        rw [tyB_u (show (tKd c (typ s + D) (tSk tSm c n (typ s + D))) = 9 by omega) (tkX_0.trans hx), tkE_0]
                        refine ⟨?_, y2.1, (p68bbbbfr k 30 (by omega) (by omega) (by omega) (by omega) (by omega) (by omega)).trans ((p38bbbfr k 30 (by omega) (by omega) (by omega) (by omega) (by omega) (by omega) (by omega)).trans hls)⟩
                        exact zVO_U hs hg (by omega) (hn0_ w38.1 (by omega)) p68bbhfd9 y2.2.1 ((p68bbbbfr k 16 (by omega) (by omega) (by omega) (by omega) (by omega) (by omega)).trans (p38bbbfr k 16 (by omega) (by omega) (by omega) (by omega) (by omega) (by omega) (by omega))) (fun e => ⟨(p68bbbbfr (k + 10) e (by omega) (by omega) (by omega) (by omega) (by omega) (by omega)).trans (p38bbbfr (k + 10) e (by omega) (by omega) (by omega) (by omega) (by omega) (by omega) (by omega)), (p68bbbbfr (k + 11) e (by omega) (by omega) (by omega) (by omega) (by omega) (by omega)).trans (p38bbbfr (k + 11) e (by omega) (by omega) (by omega) (by omega) (by omega) (by omega) (by omega))⟩)
                          (fun w => ⟨(p68bbbbfr (k + 2) _ (by omega) (by omega) (by omega) (by omega) (by omega) (by omega)).trans ((p38bbhst (by omega) w).1.trans (by omega)), (p68bbbbfr (k + 3) _ (by omega) (by omega) (by omega) (by omega) (by omega) (by omega)).trans (g38b (by omega) w)⟩) y2.2.2 (fun w i hi => ((p38bbhst (by omega) w).2.2.2.2 i hi).trans (by rw [e9]))
                          (fun w x j hx hj => (p68bbbbfr x j (by omega) (by omega) (by omega) (by omega) (by omega) (by omega)).trans (p38bbbfr x j (by omega) (by omega) (by omega) (by omega) (by omega) (by omega) (by omega))) (fun w j hj => (p68bbbbfr (k + 5) j (by omega) (by omega) (by omega) (by omega) (by omega) (by omega)).trans (p38bbbfr (k + 5) j (by omega) (by omega) (by omega) (by omega) (by omega) (by omega) (by omega))) (fun w j hj => (p68bbbbfr (k + 6) j (by omega) (by omega) (by omega) (by omega) (by omega) (by omega)).trans (p38bbbfr (k + 6) j (by omega) (by omega) (by omega) (by omega) (by omega) (by omega) (by omega))) (fun w j hj => (p68bbbbfr (k + 9) j (by omega) (by omega) (by omega) (by omega) (by omega) (by omega)).trans (p38bbbfr (k + 9) j (by omega) (by omega) (by omega) (by omega) (by omega) (by omega) (by omega))) (fun w j hj => p38bbbbfrL (k + 4) j (by omega)))
                     | (by_cases hz : tVz c n 0 ((tKd c (typ s + D) (tSk tSm c n (typ s + D))).toNat) (tSk tSm c n (typ s + D)) (tFv ((tKd c (typ s + D) (tSk tSm c n (typ s + D))).toNat) (tyx s)) = -1
                        · first
                          | (have y3 := p93bhok hz
                             have y2 : v93o = (tVp c n 0 ((tKd c (typ s + D) (tSk tSm c n (typ s + D))).toNat) (tSk tSm c n (typ s + D)) (tFv ((tKd c (typ s + D) (tSk tSm c n (typ s + D))).toNat) (tyx s))) ∧ True := ⟨y3.1, trivial⟩
                             have e1 : v93o.toNat = (tVp c n 0 ((tKd c (typ s + D) (tSk tSm c n (typ s + D))).toNat) (tSk tSm c n (typ s + D)) (tFv ((tKd c (typ s + D) (tSk tSm c n (typ s + D))).toNat) (tyx s))) := by omega
                             rw [e1] at p101hv
                             first
                             | (exfalso
                                rw [tyB_vn (show (tKd c (typ s + D) (tSk tSm c n (typ s + D))) ≠ 9 by omega) hz (by omega)] at h9
                                exact tyF_f h9)
                             | (rw [tyB_v (show (tKd c (typ s + D) (tSk tSm c n (typ s + D))) ≠ 9 by omega) hz (fun _ => by omega)]
                                exact ⟨zVO_O (I1 := I93o) (L1 := L93o) hs hg (a_ := ((tKd c (typ s + D) (tSk tSm c n (typ s + D))).toNat)) (by omega) (by omega) hDx.2.1 zxe (zxs (by omega) (zxs (by omega) (zxu (by omega) (zxu (by omega) ((p93bbfr k 22 (by omega) (by omega) (by omega) (by omega) (by omega)).trans ((p38bbbfr k 22 (by omega) (by omega) (by omega) (by omega) (by omega) (by omega) (by omega)).trans s22)))))) ((zxs (by omega) (zxs (by omega) (zxu (by omega) (zxu (by omega) ((p93bbfr k 16 (by omega) (by omega) (by omega) (by omega) (by omega)).trans ((p38bbbfr k 16 (by omega) (by omega) (by omega) (by omega) (by omega) (by omega) (by omega)).trans (s16 (hn0_ w38.1 (by omega))))))))).trans (tXx_f (by omega)).symm)
                          ⟨zxu (by omega) (zxu (by omega) (zxu (by omega) (zxe' (by omega)))), zxu (by omega) (zxu (by omega) ((zxe' (by omega)).trans (by omega)))⟩ (fun e he => ⟨zxu (by omega) (zxu (by omega) (zxu (by omega) (zxs (by omega) ((p93bbfr (k + 10) e (by omega) (by omega) (by omega) (by omega) (by omega)).trans (p38bbbfr (k + 10) e (by omega) (by omega) (by omega) (by omega) (by omega) (by omega) (by omega)))))), zxu (by omega) (zxu (by omega) (zxs (by omega) (zxu (by omega) ((p93bbfr (k + 11) e (by omega) (by omega) (by omega) (by omega) (by omega)).trans (p38bbbfr (k + 11) e (by omega) (by omega) (by omega) (by omega) (by omega) (by omega) (by omega))))))⟩)
                          (fun w => ⟨(p93bbfr (k + 2) _ (by omega) (by omega) (by omega) (by omega) (by omega)).trans ((p38bbhst (by omega) w).1.trans w38.2.1), (p93bbfr (k + 3) _ (by omega) (by omega) (by omega) (by omega) (by omega)).trans (g38b (by omega) w)⟩) (fun w _ => y3.2 w) (fun w i h1 h2 => (p93bbbfrL (k + 4) _ (by omega) (by omega)).trans (((p38bbhst (by omega) w).2.2.2.2 i h2).trans (by rw [w38.2.1]))) (fun w i h1 h2 => (p93bbfr (k + 5) _ (by omega) (by omega) (by omega) (by omega) (by omega)).trans ((p38bbhst (by omega) w).2.2.2.1 i h2))
                          (fun x j h1 h2 => zxu (by omega) (zxu (by omega) (zxu (by omega) (zxu (by omega) rfl)))) (fun j => rfl)
                          (fun w x j hx hj => (p93bbfr x j (by omega) (by omega) (by omega) (by omega) (by omega)).trans (p38bbbfr x j (by omega) (by omega) (by omega) (by omega) (by omega) (by omega) (by omega))) (fun w j hj => (p93bbfr (k + 5) j (by omega) (by omega) (by omega) (by omega) (by omega)).trans (p38bbbfr (k + 5) j (by omega) (by omega) (by omega) (by omega) (by omega) (by omega) (by omega))) (fun w j hj => (p93bbfr (k + 6) j (by omega) (by omega) (by omega) (by omega) (by omega)).trans (p38bbbfr (k + 6) j (by omega) (by omega) (by omega) (by omega) (by omega) (by omega) (by omega))) (fun w j hj => (p93bbfr (k + 9) j (by omega) (by omega) (by omega) (by omega) (by omega)).trans (p38bbbfr (k + 9) j (by omega) (by omega) (by omega) (by omega) (by omega) (by omega) (by omega))) (fun w j hj => (p93bbbfrL (k + 4) j (by omega) (by omega)).trans (p38bbbbfrL (k + 4) j (by omega))), (by rw [y2.1]; show _ = (((tVp c n 0 ((tKd c (typ s + D) (tSk tSm c n (typ s + D))).toNat) (tSk tSm c n (typ s + D)) (tFv ((tKd c (typ s + D) (tSk tSm c n (typ s + D))).toNat) (tyx s))) + (1 - 0) : Nat) : Int); omega), zxs (by omega) (zxe.trans (show _ = ((D + 1 : Nat) : Int) - 1 by omega))⟩))
                          | (have y2 := g81bb hz
                             have e1 : v81o.toNat = (tVp c n 0 ((tKd c (typ s + D) (tSk tSm c n (typ s + D))).toNat) (tSk tSm c n (typ s + D)) (tFv ((tKd c (typ s + D) (tSk tSm c n (typ s + D))).toNat) (tyx s))) := by omega
                             rw [e1] at p101hv
                             first
                             | (exfalso
                                rw [tyB_vn (show (tKd c (typ s + D) (tSk tSm c n (typ s + D))) ≠ 9 by omega) hz (by omega)] at h9
                                exact tyF_f h9)
                             | (rw [tyB_v (show (tKd c (typ s + D) (tSk tSm c n (typ s + D))) ≠ 9 by omega) hz (fun _ => by omega)]
                                exact ⟨zVO_O (I1 := I81o) (L1 := L81o) hs hg (a_ := ((tKd c (typ s + D) (tSk tSm c n (typ s + D))).toNat)) (by omega) (by omega) hDx.2.1 zxe (zxs (by omega) (zxs (by omega) (zxu (by omega) (zxu (by omega) ((p81bfr k 22 (by omega) (by omega)).trans ((p38bbbfr k 22 (by omega) (by omega) (by omega) (by omega) (by omega) (by omega) (by omega)).trans s22)))))) (zxs (by omega) (zxs (by omega) (zxu (by omega) (zxu (by omega) y2.2))))
                          ⟨zxu (by omega) (zxu (by omega) (zxu (by omega) (zxe' (by omega)))), zxu (by omega) (zxu (by omega) ((zxe' (by omega)).trans (by omega)))⟩ (fun e he => ⟨zxu (by omega) (zxu (by omega) (zxu (by omega) (zxs (by omega) ((p81bfr (k + 10) e (by omega) (by omega)).trans (p38bbbfr (k + 10) e (by omega) (by omega) (by omega) (by omega) (by omega) (by omega) (by omega)))))), zxu (by omega) (zxu (by omega) (zxs (by omega) (zxu (by omega) ((p81bfr (k + 11) e (by omega) (by omega)).trans (p38bbbfr (k + 11) e (by omega) (by omega) (by omega) (by omega) (by omega) (by omega) (by omega))))))⟩)
                          (fun w => ⟨(p81bfr (k + 2) _ (by omega) (by omega)).trans ((p38bbhst (by omega) w).1.trans w38.2.1), (p81bfr (k + 3) _ (by omega) (by omega)).trans (g38b (by omega) w)⟩) (fun w h => absurd (by omega) h) (fun w i h1 h2 => (p81bbfrL (k + 4) _ (by omega)).trans (((p38bbhst (by omega) w).2.2.2.2 i h2).trans (by rw [w38.2.1]))) (fun w i h1 h2 => (p81bfr (k + 5) _ (by omega) (by omega)).trans ((p38bbhst (by omega) w).2.2.2.1 i h2))
                          (fun x j h1 h2 => zxu (by omega) (zxu (by omega) (zxu (by omega) (zxu (by omega) rfl)))) (fun j => rfl)
                          (fun w x j hx hj => (p81bfr x j (by omega) (by omega)).trans (p38bbbfr x j (by omega) (by omega) (by omega) (by omega) (by omega) (by omega) (by omega))) (fun w j hj => (p81bfr (k + 5) j (by omega) (by omega)).trans (p38bbbfr (k + 5) j (by omega) (by omega) (by omega) (by omega) (by omega) (by omega) (by omega))) (fun w j hj => (p81bfr (k + 6) j (by omega) (by omega)).trans (p38bbbfr (k + 6) j (by omega) (by omega) (by omega) (by omega) (by omega) (by omega) (by omega))) (fun w j hj => (p81bfr (k + 9) j (by omega) (by omega)).trans (p38bbbfr (k + 9) j (by omega) (by omega) (by omega) (by omega) (by omega) (by omega) (by omega))) (fun w j hj => (p81bbfrL (k + 4) j (by omega)).trans (p38bbbbfrL (k + 4) j (by omega))), (by rw [y2.1]; show _ = (((tVp c n 0 ((tKd c (typ s + D) (tSk tSm c n (typ s + D))).toNat) (tSk tSm c n (typ s + D)) (tFv ((tKd c (typ s + D) (tSk tSm c n (typ s + D))).toNat) (tyx s))) + (1 - 0) : Nat) : Int); omega), zxs (by omega) (zxe.trans (show _ = ((D + 1 : Nat) : Int) - 1 by omega))⟩))
                        · exfalso
                          rw [tyB_vf hc em.2.1 (show (tKd c (typ s + D) (tSk tSm c n (typ s + D))) ≠ 9 by omega) hz] at h9
                          exact hz h9))
                  | (exfalso; omega)
          · refine And.intro (zDX hD 0 rfl) ⟨_, sn_V_ver2.up (by decide), ?_⟩
            refine ⟨_, _, _, (v53o : Int), (tSk tSm c n (typ s + D)), (0 : Int), 0, rfl, hD, (by first | exact (zRM_fr hX (fun c j h => ((p38bbbfr c j (by omega) (by omega) (by omega) (by omega) (by omega) (by omega) (by omega)).trans rfl))) | (clear hQ; grind [xu])), (by first | exact hc | (clear hQ; grind [xu])), ⟨by omega, by omega⟩, (by omega), (Eq.trans (b := ((-1) : Int)) w38.2.2.1 (by omega)), ?_⟩
            intro v81o I81o L81o p81hg p81bfr p81bbfrL p81bbbhvb9
            have g81 : -1 ≤ tVz c n 0 ((tKd c (typ s + D) (tSk tSm c n (typ s + D))).toNat) (tSk tSm c n (typ s + D)) (tFv ((tKd c (typ s + D) (tSk tSm c n (typ s + D))).toNat) (tyx s)) ∧ tVz c n 0 ((tKd c (typ s + D) (tSk tSm c n (typ s + D))).toNat) (tSk tSm c n (typ s + D)) (tFv ((tKd c (typ s + D) (tSk tSm c n (typ s + D))).toNat) (tyx s)) ≤ 9000 := ⟨tVz_ge hc (tSm_s hc w38.1.1).2.1, tVz_le hc (tSm_s hc w38.1.1).2.1⟩
            have g81b : I81o k 18 = tVz c n 0 ((tKd c (typ s + D) (tSk tSm c n (typ s + D))).toNat) (tSk tSm c n (typ s + D)) (tFv ((tKd c (typ s + D) (tSk tSm c n (typ s + D))).toNat) (tyx s)) := by
              have e0 : ((tKd c (typ s + D) (tSk tSm c n (typ s + D))).toNat) = 0 := by omega
              rw [e0, tFv_00]
              rcases p81hg with w | w
              · rw [tVz_v.1 w.1]
                exact w.2
              · rw [tVz_v.2.1 w.1]
                exact w.2.1
            have g81bb : tVz c n 0 ((tKd c (typ s + D) (tSk tSm c n (typ s + D))).toNat) (tSk tSm c n (typ s + D)) (tFv ((tKd c (typ s + D) (tSk tSm c n (typ s + D))).toNat) (tyx s)) = -1 → v81o = (tVp c n 0 ((tKd c (typ s + D) (tSk tSm c n (typ s + D))).toNat) (tSk tSm c n (typ s + D)) (tFv ((tKd c (typ s + D) (tSk tSm c n (typ s + D))).toNat) (tyx s))) ∧ I81o k 16 = tXx c n 0 ((tKd c (typ s + D) (tSk tSm c n (typ s + D))).toNat) (tSk tSm c n (typ s + D)) (tFv ((tKd c (typ s + D) (tSk tSm c n (typ s + D))).toNat) (tyx s)) (tyx s) := by
              intro h9
              have e0 : ((tKd c (typ s + D) (tSk tSm c n (typ s + D))).toNat) = 0 := by omega
              rw [e0, tFv_00] at h9 ⊢
              rcases p81hg with w | w
              · exfalso
                rw [tVz_v.1 w.1] at h9
                omega
              · rw [tVz_v.2.1 w.1] at h9
                have y2 := w.2.2 h9
                exact ⟨y2.1.trans (congrArg Nat.cast tVz_v.2.2.1.symm), y2.2.1.trans (tVz_v.2.2.2 _).symm⟩
            refine And.intro (zDX hD 0 rfl) ⟨_, sn_V_c.up (by decide), ?_⟩
            refine ⟨_, _, _, (v81o : Int), (v81o).toNat, rfl, hD, (by first | exact (zRM_fr hX (fun c j h => ((p81bfr c j (by omega) (by omega)).trans ((p38bbbfr c j (by omega) (by omega) (by omega) (by omega) (by omega) (by omega) (by omega)).trans rfl)))) | (clear hQ; grind [xu])), (by first | exact hc | (clear hQ; grind [xu])), (by omega), ?_⟩
            intro v101o p101hv p101bhv2
            refine And.intro ⟨(by omega), (zRb rfl)⟩ ⟨fun h106 => ?_, fun h106 => ?_⟩
            · refine And.intro (zDX hD 0 rfl) (zrdR (v := some (k + 10)) (zDR hD 9 rfl) ?_)
              refine And.intro (zDX hD 0 rfl) (zrd (v := (tyn s)) ((p81bfr k 17 (by omega) (by omega)).trans ((p38bbbfr k 17 (by omega) (by omega) (by omega) (by omega) (by omega) (by omega) (by omega)).trans s17)) ?_)
              refine And.intro ⟨(by show 40 ≤ _; omega), (zDP hD 10 rfl rfl (by omega) (by omega))⟩ ⟨_, (zWi (by omega)), ?_⟩
              refine And.intro (zDX hD 0 rfl) (zrdR (v := some (k + 11)) (zDR hD 10 rfl) ?_)
              refine And.intro ⟨(by show 40 ≤ _; omega), (zDP hD 11 rfl rfl (by omega) (by omega))⟩ ⟨_, (zWi (by omega)), ?_⟩
              refine And.intro (zDX hD 0 rfl) ⟨_, (zWi (by omega)), ?_⟩
              refine And.intro (zDX hD 0 rfl) (zrd (v := (tyn s)) (zxs (by decide) (zxu (by omega) (zxu (by omega) ((p81bfr k 17 (by omega) (by omega)).trans ((p38bbbfr k 17 (by omega) (by omega) (by omega) (by omega) (by omega) (by omega) (by omega)).trans s17))))) ?_)
              refine And.intro (zDX hD 0 rfl) ⟨_, (zWi (by omega)), ?_⟩
              refine hQ _ _ _ ?_ ?_ (by omega) (fun c j h0 h1 h2 h3 h4 h5 h6 h7 h8 h9 h10 h11 h12 h13 h14 h15 => (zxcj h1 (zxcj h6 (zxu h15 (zxu h14 ((p81bfr c j h2 h0).trans ((p38bbbfr c j h2 h3 h4 (fun w => h7 ⟨w.1, w.2.1⟩) (fun w => h8 ⟨w.1, w.2.1⟩) (fun w => h12 ⟨w.1, w.2.1⟩) (fun w => h9 ⟨w.1, w.2.1⟩)).trans rfl))))))) (fun c j h0 h1 => ((p81bbfrL c j h0).trans ((p38bbbbfrL c j (fun w => h1 ⟨w.1, w.2.1⟩)).trans rfl)))
              · first
                | (rw [tyA_nb hDD hDx.2.2.1 w38.1]
                   exact w38.2.2)
                | (rw [tyA_y hDD hD46 hDx.2.2.1 w38.1]
                   have em := tSm_s hc w38.1.1
                   first
                   | (rw [tyB_9 (show (tKd c (typ s + D) (tSk tSm c n (typ s + D))) = 9 by omega), tkX_0]
                      exact p68hf)
                   | (by_cases hz : tVz c n 0 ((tKd c (typ s + D) (tSk tSm c n (typ s + D))).toNat) (tSk tSm c n (typ s + D)) (tFv ((tKd c (typ s + D) (tSk tSm c n (typ s + D))).toNat) (tyx s)) = -1
                      · first
                        | (have y2 := p93bhok hz
                           have e1 : v93o.toNat = (tVp c n 0 ((tKd c (typ s + D) (tSk tSm c n (typ s + D))).toNat) (tSk tSm c n (typ s + D)) (tFv ((tKd c (typ s + D) (tSk tSm c n (typ s + D))).toNat) (tyx s))) := by omega
                           rw [e1] at p101hv
                           first
                           | (rw [tyB_v (show (tKd c (typ s + D) (tSk tSm c n (typ s + D))) ≠ 9 by omega) hz (fun _ => by omega)]
                              exact zxs (by omega) (zxs (by omega) (zxu (by omega) (zxu (by omega) (p93hf.trans hz)))))
                           | (rw [tyB_vn (show (tKd c (typ s + D) (tSk tSm c n (typ s + D))) ≠ 9 by omega) hz (by omega)]
                              exact (zxs (by omega) (zxs (by omega) (zxu (by omega) (zxu (by omega) zxe)))).trans (show _ = (((tVp c n 0 ((tKd c (typ s + D) (tSk tSm c n (typ s + D))).toNat) (tSk tSm c n (typ s + D)) (tFv ((tKd c (typ s + D) (tSk tSm c n (typ s + D))).toNat) (tyx s))) : Nat) : Int) by omega)))
                        | (have y2 := g81bb hz
                           have e1 : v81o.toNat = (tVp c n 0 ((tKd c (typ s + D) (tSk tSm c n (typ s + D))).toNat) (tSk tSm c n (typ s + D)) (tFv ((tKd c (typ s + D) (tSk tSm c n (typ s + D))).toNat) (tyx s))) := by omega
                           rw [e1] at p101hv
                           first
                           | (rw [tyB_v (show (tKd c (typ s + D) (tSk tSm c n (typ s + D))) ≠ 9 by omega) hz (fun _ => by omega)]
                              exact zxs (by omega) (zxs (by omega) (zxu (by omega) (zxu (by omega) (g81b.trans hz)))))
                           | (rw [tyB_vn (show (tKd c (typ s + D) (tSk tSm c n (typ s + D))) ≠ 9 by omega) hz (by omega)]
                              exact (zxs (by omega) (zxs (by omega) (zxu (by omega) (zxu (by omega) zxe)))).trans (show _ = (((tVp c n 0 ((tKd c (typ s + D) (tSk tSm c n (typ s + D))).toNat) (tSk tSm c n (typ s + D)) (tFv ((tKd c (typ s + D) (tSk tSm c n (typ s + D))).toNat) (tyx s))) : Nat) : Int) by omega)))
                      · rw [tyB_vf hc em.2.1 (show (tKd c (typ s + D) (tSk tSm c n (typ s + D))) ≠ 9 by omega) hz]
                        first
                        | exact zxs (by omega) (zxs (by omega) (zxu (by omega) (zxu (by omega) p93hf)))
                        | exact zxs (by omega) (zxs (by omega) (zxu (by omega) (zxu (by omega) g81b)))
                        | (exfalso; omega)))
                | (exfalso; omega)
              · intro h9
                first
                | (exfalso
                   rw [tyA_nb hDD hDx.2.2.1 w38.1] at h9
                   exact tyF_f h9)
                | (rw [tyA_y hDD hD46 hDx.2.2.1 w38.1] at h9 ⊢
                   have em := tSm_s hc w38.1.1
                   first
                   | (have hx : tlX c n (typ s + D + 2000 - tyk s) D (tSk tSm c n (typ s + D)) = -1 := by
                        rw [tyB_9 (show (tKd c (typ s + D) (tSk tSm c n (typ s + D))) = 9 by omega), tkX_0] at h9
                        exact h9
                      have y2 := p68bhok hx
                      have eb := tlX_b hc hx
                      have e9 : v38o.toNat = 9 := by omega
                      rw [tyB_u (show (tKd c (typ s + D) (tSk tSm c n (typ s + D))) = 9 by omega) (tkX_0.trans hx), tkE_0]
                      refine ⟨?_, y2.1, (p68bbbbfr k 30 (by omega) (by omega) (by omega) (by omega) (by omega) (by omega)).trans ((p38bbbfr k 30 (by omega) (by omega) (by omega) (by omega) (by omega) (by omega) (by omega)).trans hls)⟩
                      exact zVO_U hs hg (by omega) (hn0_ w38.1 (by omega)) p68bbhfd9 y2.2.1 ((p68bbbbfr k 16 (by omega) (by omega) (by omega) (by omega) (by omega) (by omega)).trans (p38bbbfr k 16 (by omega) (by omega) (by omega) (by omega) (by omega) (by omega) (by omega))) (fun e => ⟨(p68bbbbfr (k + 10) e (by omega) (by omega) (by omega) (by omega) (by omega) (by omega)).trans (p38bbbfr (k + 10) e (by omega) (by omega) (by omega) (by omega) (by omega) (by omega) (by omega)), (p68bbbbfr (k + 11) e (by omega) (by omega) (by omega) (by omega) (by omega) (by omega)).trans (p38bbbfr (k + 11) e (by omega) (by omega) (by omega) (by omega) (by omega) (by omega) (by omega))⟩)
                        (fun w => ⟨(p68bbbbfr (k + 2) _ (by omega) (by omega) (by omega) (by omega) (by omega) (by omega)).trans ((p38bbhst (by omega) w).1.trans (by omega)), (p68bbbbfr (k + 3) _ (by omega) (by omega) (by omega) (by omega) (by omega) (by omega)).trans (g38b (by omega) w)⟩) y2.2.2 (fun w i hi => ((p38bbhst (by omega) w).2.2.2.2 i hi).trans (by rw [e9]))
                        (fun w x j hx hj => (p68bbbbfr x j (by omega) (by omega) (by omega) (by omega) (by omega) (by omega)).trans (p38bbbfr x j (by omega) (by omega) (by omega) (by omega) (by omega) (by omega) (by omega))) (fun w j hj => (p68bbbbfr (k + 5) j (by omega) (by omega) (by omega) (by omega) (by omega) (by omega)).trans (p38bbbfr (k + 5) j (by omega) (by omega) (by omega) (by omega) (by omega) (by omega) (by omega))) (fun w j hj => (p68bbbbfr (k + 6) j (by omega) (by omega) (by omega) (by omega) (by omega) (by omega)).trans (p38bbbfr (k + 6) j (by omega) (by omega) (by omega) (by omega) (by omega) (by omega) (by omega))) (fun w j hj => (p68bbbbfr (k + 9) j (by omega) (by omega) (by omega) (by omega) (by omega) (by omega)).trans (p38bbbfr (k + 9) j (by omega) (by omega) (by omega) (by omega) (by omega) (by omega) (by omega))) (fun w j hj => p38bbbbfrL (k + 4) j (by omega)))
                   | (by_cases hz : tVz c n 0 ((tKd c (typ s + D) (tSk tSm c n (typ s + D))).toNat) (tSk tSm c n (typ s + D)) (tFv ((tKd c (typ s + D) (tSk tSm c n (typ s + D))).toNat) (tyx s)) = -1
                      · first
                        | (have y3 := p93bhok hz
                           have y2 : v93o = (tVp c n 0 ((tKd c (typ s + D) (tSk tSm c n (typ s + D))).toNat) (tSk tSm c n (typ s + D)) (tFv ((tKd c (typ s + D) (tSk tSm c n (typ s + D))).toNat) (tyx s))) ∧ True := ⟨y3.1, trivial⟩
                           have e1 : v93o.toNat = (tVp c n 0 ((tKd c (typ s + D) (tSk tSm c n (typ s + D))).toNat) (tSk tSm c n (typ s + D)) (tFv ((tKd c (typ s + D) (tSk tSm c n (typ s + D))).toNat) (tyx s))) := by omega
                           rw [e1] at p101hv
                           first
                           | (exfalso
                              rw [tyB_vn (show (tKd c (typ s + D) (tSk tSm c n (typ s + D))) ≠ 9 by omega) hz (by omega)] at h9
                              exact tyF_f h9)
                           | (rw [tyB_v (show (tKd c (typ s + D) (tSk tSm c n (typ s + D))) ≠ 9 by omega) hz (fun _ => by omega)]
                              exact ⟨zVO_O (I1 := I93o) (L1 := L93o) hs hg (a_ := ((tKd c (typ s + D) (tSk tSm c n (typ s + D))).toNat)) (by omega) (by omega) hDx.2.1 zxe (zxs (by omega) (zxs (by omega) (zxu (by omega) (zxu (by omega) ((p93bbfr k 22 (by omega) (by omega) (by omega) (by omega) (by omega)).trans ((p38bbbfr k 22 (by omega) (by omega) (by omega) (by omega) (by omega) (by omega) (by omega)).trans s22)))))) ((zxs (by omega) (zxs (by omega) (zxu (by omega) (zxu (by omega) ((p93bbfr k 16 (by omega) (by omega) (by omega) (by omega) (by omega)).trans ((p38bbbfr k 16 (by omega) (by omega) (by omega) (by omega) (by omega) (by omega) (by omega)).trans (s16 (hn0_ w38.1 (by omega))))))))).trans (tXx_f (by omega)).symm)
                        ⟨zxu (by omega) (zxu (by omega) (zxu (by omega) (zxe' (by omega)))), zxu (by omega) (zxu (by omega) ((zxe' (by omega)).trans (by omega)))⟩ (fun e he => ⟨zxu (by omega) (zxu (by omega) (zxu (by omega) (zxs (by omega) ((p93bbfr (k + 10) e (by omega) (by omega) (by omega) (by omega) (by omega)).trans (p38bbbfr (k + 10) e (by omega) (by omega) (by omega) (by omega) (by omega) (by omega) (by omega)))))), zxu (by omega) (zxu (by omega) (zxs (by omega) (zxu (by omega) ((p93bbfr (k + 11) e (by omega) (by omega) (by omega) (by omega) (by omega)).trans (p38bbbfr (k + 11) e (by omega) (by omega) (by omega) (by omega) (by omega) (by omega) (by omega))))))⟩)
                        (fun w => ⟨(p93bbfr (k + 2) _ (by omega) (by omega) (by omega) (by omega) (by omega)).trans ((p38bbhst (by omega) w).1.trans w38.2.1), (p93bbfr (k + 3) _ (by omega) (by omega) (by omega) (by omega) (by omega)).trans (g38b (by omega) w)⟩) (fun w _ => y3.2 w) (fun w i h1 h2 => (p93bbbfrL (k + 4) _ (by omega) (by omega)).trans (((p38bbhst (by omega) w).2.2.2.2 i h2).trans (by rw [w38.2.1]))) (fun w i h1 h2 => (p93bbfr (k + 5) _ (by omega) (by omega) (by omega) (by omega) (by omega)).trans ((p38bbhst (by omega) w).2.2.2.1 i h2))
                        (fun x j h1 h2 => zxu (by omega) (zxu (by omega) (zxu (by omega) (zxu (by omega) rfl)))) (fun j => rfl)
                        (fun w x j hx hj => (p93bbfr x j (by omega) (by omega) (by omega) (by omega) (by omega)).trans (p38bbbfr x j (by omega) (by omega) (by omega) (by omega) (by omega) (by omega) (by omega))) (fun w j hj => (p93bbfr (k + 5) j (by omega) (by omega) (by omega) (by omega) (by omega)).trans (p38bbbfr (k + 5) j (by omega) (by omega) (by omega) (by omega) (by omega) (by omega) (by omega))) (fun w j hj => (p93bbfr (k + 6) j (by omega) (by omega) (by omega) (by omega) (by omega)).trans (p38bbbfr (k + 6) j (by omega) (by omega) (by omega) (by omega) (by omega) (by omega) (by omega))) (fun w j hj => (p93bbfr (k + 9) j (by omega) (by omega) (by omega) (by omega) (by omega)).trans (p38bbbfr (k + 9) j (by omega) (by omega) (by omega) (by omega) (by omega) (by omega) (by omega))) (fun w j hj => (p93bbbfrL (k + 4) j (by omega) (by omega)).trans (p38bbbbfrL (k + 4) j (by omega))), (by rw [y2.1]; show _ = (((tVp c n 0 ((tKd c (typ s + D) (tSk tSm c n (typ s + D))).toNat) (tSk tSm c n (typ s + D)) (tFv ((tKd c (typ s + D) (tSk tSm c n (typ s + D))).toNat) (tyx s))) + (1 - 0) : Nat) : Int); omega), zxs (by omega) (zxe.trans (show _ = ((D + 1 : Nat) : Int) - 1 by omega))⟩))
                        | (have y2 := g81bb hz
                           have e1 : v81o.toNat = (tVp c n 0 ((tKd c (typ s + D) (tSk tSm c n (typ s + D))).toNat) (tSk tSm c n (typ s + D)) (tFv ((tKd c (typ s + D) (tSk tSm c n (typ s + D))).toNat) (tyx s))) := by omega
                           rw [e1] at p101hv
                           first
                           | (exfalso
                              rw [tyB_vn (show (tKd c (typ s + D) (tSk tSm c n (typ s + D))) ≠ 9 by omega) hz (by omega)] at h9
                              exact tyF_f h9)
                           | (rw [tyB_v (show (tKd c (typ s + D) (tSk tSm c n (typ s + D))) ≠ 9 by omega) hz (fun _ => by omega)]
                              exact ⟨zVO_O (I1 := I81o) (L1 := L81o) hs hg (a_ := ((tKd c (typ s + D) (tSk tSm c n (typ s + D))).toNat)) (by omega) (by omega) hDx.2.1 zxe (zxs (by omega) (zxs (by omega) (zxu (by omega) (zxu (by omega) ((p81bfr k 22 (by omega) (by omega)).trans ((p38bbbfr k 22 (by omega) (by omega) (by omega) (by omega) (by omega) (by omega) (by omega)).trans s22)))))) (zxs (by omega) (zxs (by omega) (zxu (by omega) (zxu (by omega) y2.2))))
                        ⟨zxu (by omega) (zxu (by omega) (zxu (by omega) (zxe' (by omega)))), zxu (by omega) (zxu (by omega) ((zxe' (by omega)).trans (by omega)))⟩ (fun e he => ⟨zxu (by omega) (zxu (by omega) (zxu (by omega) (zxs (by omega) ((p81bfr (k + 10) e (by omega) (by omega)).trans (p38bbbfr (k + 10) e (by omega) (by omega) (by omega) (by omega) (by omega) (by omega) (by omega)))))), zxu (by omega) (zxu (by omega) (zxs (by omega) (zxu (by omega) ((p81bfr (k + 11) e (by omega) (by omega)).trans (p38bbbfr (k + 11) e (by omega) (by omega) (by omega) (by omega) (by omega) (by omega) (by omega))))))⟩)
                        (fun w => ⟨(p81bfr (k + 2) _ (by omega) (by omega)).trans ((p38bbhst (by omega) w).1.trans w38.2.1), (p81bfr (k + 3) _ (by omega) (by omega)).trans (g38b (by omega) w)⟩) (fun w h => absurd (by omega) h) (fun w i h1 h2 => (p81bbfrL (k + 4) _ (by omega)).trans (((p38bbhst (by omega) w).2.2.2.2 i h2).trans (by rw [w38.2.1]))) (fun w i h1 h2 => (p81bfr (k + 5) _ (by omega) (by omega)).trans ((p38bbhst (by omega) w).2.2.2.1 i h2))
                        (fun x j h1 h2 => zxu (by omega) (zxu (by omega) (zxu (by omega) (zxu (by omega) rfl)))) (fun j => rfl)
                        (fun w x j hx hj => (p81bfr x j (by omega) (by omega)).trans (p38bbbfr x j (by omega) (by omega) (by omega) (by omega) (by omega) (by omega) (by omega))) (fun w j hj => (p81bfr (k + 5) j (by omega) (by omega)).trans (p38bbbfr (k + 5) j (by omega) (by omega) (by omega) (by omega) (by omega) (by omega) (by omega))) (fun w j hj => (p81bfr (k + 6) j (by omega) (by omega)).trans (p38bbbfr (k + 6) j (by omega) (by omega) (by omega) (by omega) (by omega) (by omega) (by omega))) (fun w j hj => (p81bfr (k + 9) j (by omega) (by omega)).trans (p38bbbfr (k + 9) j (by omega) (by omega) (by omega) (by omega) (by omega) (by omega) (by omega))) (fun w j hj => (p81bbfrL (k + 4) j (by omega)).trans (p38bbbbfrL (k + 4) j (by omega))), (by rw [y2.1]; show _ = (((tVp c n 0 ((tKd c (typ s + D) (tSk tSm c n (typ s + D))).toNat) (tSk tSm c n (typ s + D)) (tFv ((tKd c (typ s + D) (tSk tSm c n (typ s + D))).toNat) (tyx s))) + (1 - 0) : Nat) : Int); omega), zxs (by omega) (zxe.trans (show _ = ((D + 1 : Nat) : Int) - 1 by omega))⟩))
                      · exfalso
                        rw [tyB_vf hc em.2.1 (show (tKd c (typ s + D) (tSk tSm c n (typ s + D))) ≠ 9 by omega) hz] at h9
                        exact hz h9))
                | (exfalso; omega)
            · refine And.intro (zDX hD 0 rfl) (Exists.intro _ (And.intro (zinl_ok (zT20_9 4)) (And.intro rfl ?_)))
              refine And.intro (zDX hD 0 rfl) (zrd (v := (tVz c n 0 ((tKd c (typ s + D) (tSk tSm c n (typ s + D))).toNat) (tSk tSm c n (typ s + D)) (tFv ((tKd c (typ s + D) (tSk tSm c n (typ s + D))).toNat) (tyx s)))) g81b ?_)
              refine And.intro ⟨(by omega), (zRb rfl)⟩ ⟨fun h5_112 => ?_, fun h5_112 => ?_⟩
              · refine And.intro (zDX hD 0 rfl) (zrdR (v := some (k + 10)) (zDR hD 9 rfl) ?_)
                refine And.intro (zDX hD 0 rfl) (zrd (v := (tyn s)) ((p81bfr k 17 (by omega) (by omega)).trans ((p38bbbfr k 17 (by omega) (by omega) (by omega) (by omega) (by omega) (by omega) (by omega)).trans s17)) ?_)
                refine And.intro ⟨(by show 40 ≤ _; omega), (zDP hD 10 rfl rfl (by omega) (by omega))⟩ ⟨_, (zWi (by omega)), ?_⟩
                refine And.intro (zDX hD 0 rfl) (zrdR (v := some (k + 11)) (zDR hD 10 rfl) ?_)
                refine And.intro ⟨(by show 40 ≤ _; omega), (zDP hD 11 rfl rfl (by omega) (by omega))⟩ ⟨_, (zWi (by omega)), ?_⟩
                refine And.intro (zDX hD 0 rfl) ⟨_, (zWi (by omega)), ?_⟩
                refine And.intro (zDX hD 0 rfl) (zrd (v := (tyn s)) (zxs (by decide) (zxu (by omega) (zxu (by omega) ((p81bfr k 17 (by omega) (by omega)).trans ((p38bbbfr k 17 (by omega) (by omega) (by omega) (by omega) (by omega) (by omega) (by omega)).trans s17))))) ?_)
                refine And.intro (zDX hD 0 rfl) ⟨_, (zWi (by omega)), ?_⟩
                refine hQ _ _ _ ?_ ?_ (by omega) (fun c j h0 h1 h2 h3 h4 h5 h6 h7 h8 h9 h10 h11 h12 h13 h14 h15 => (zxcj h1 (zxcj h6 (zxu h15 (zxu h14 ((p81bfr c j h2 h0).trans ((p38bbbfr c j h2 h3 h4 (fun w => h7 ⟨w.1, w.2.1⟩) (fun w => h8 ⟨w.1, w.2.1⟩) (fun w => h12 ⟨w.1, w.2.1⟩) (fun w => h9 ⟨w.1, w.2.1⟩)).trans rfl))))))) (fun c j h0 h1 => ((p81bbfrL c j h0).trans ((p38bbbbfrL c j (fun w => h1 ⟨w.1, w.2.1⟩)).trans rfl)))
                · first
                  | (rw [tyA_nb hDD hDx.2.2.1 w38.1]
                     exact w38.2.2)
                  | (rw [tyA_y hDD hD46 hDx.2.2.1 w38.1]
                     have em := tSm_s hc w38.1.1
                     first
                     | (rw [tyB_9 (show (tKd c (typ s + D) (tSk tSm c n (typ s + D))) = 9 by omega), tkX_0]
                        exact p68hf)
                     | (by_cases hz : tVz c n 0 ((tKd c (typ s + D) (tSk tSm c n (typ s + D))).toNat) (tSk tSm c n (typ s + D)) (tFv ((tKd c (typ s + D) (tSk tSm c n (typ s + D))).toNat) (tyx s)) = -1
                        · first
                          | (have y2 := p93bhok hz
                             have e1 : v93o.toNat = (tVp c n 0 ((tKd c (typ s + D) (tSk tSm c n (typ s + D))).toNat) (tSk tSm c n (typ s + D)) (tFv ((tKd c (typ s + D) (tSk tSm c n (typ s + D))).toNat) (tyx s))) := by omega
                             rw [e1] at p101hv
                             first
                             | (rw [tyB_v (show (tKd c (typ s + D) (tSk tSm c n (typ s + D))) ≠ 9 by omega) hz (fun _ => by omega)]
                                exact zxs (by omega) (zxs (by omega) (zxu (by omega) (zxu (by omega) (p93hf.trans hz)))))
                             | (rw [tyB_vn (show (tKd c (typ s + D) (tSk tSm c n (typ s + D))) ≠ 9 by omega) hz (by omega)]
                                exact (zxs (by omega) (zxs (by omega) (zxu (by omega) (zxu (by omega) zxe)))).trans (show _ = (((tVp c n 0 ((tKd c (typ s + D) (tSk tSm c n (typ s + D))).toNat) (tSk tSm c n (typ s + D)) (tFv ((tKd c (typ s + D) (tSk tSm c n (typ s + D))).toNat) (tyx s))) : Nat) : Int) by omega)))
                          | (have y2 := g81bb hz
                             have e1 : v81o.toNat = (tVp c n 0 ((tKd c (typ s + D) (tSk tSm c n (typ s + D))).toNat) (tSk tSm c n (typ s + D)) (tFv ((tKd c (typ s + D) (tSk tSm c n (typ s + D))).toNat) (tyx s))) := by omega
                             rw [e1] at p101hv
                             first
                             | (rw [tyB_v (show (tKd c (typ s + D) (tSk tSm c n (typ s + D))) ≠ 9 by omega) hz (fun _ => by omega)]
                                exact zxs (by omega) (zxs (by omega) (zxu (by omega) (zxu (by omega) (g81b.trans hz)))))
                             | (rw [tyB_vn (show (tKd c (typ s + D) (tSk tSm c n (typ s + D))) ≠ 9 by omega) hz (by omega)]
                                exact (zxs (by omega) (zxs (by omega) (zxu (by omega) (zxu (by omega) zxe)))).trans (show _ = (((tVp c n 0 ((tKd c (typ s + D) (tSk tSm c n (typ s + D))).toNat) (tSk tSm c n (typ s + D)) (tFv ((tKd c (typ s + D) (tSk tSm c n (typ s + D))).toNat) (tyx s))) : Nat) : Int) by omega)))
                        · rw [tyB_vf hc em.2.1 (show (tKd c (typ s + D) (tSk tSm c n (typ s + D))) ≠ 9 by omega) hz]
                          first
                          | exact zxs (by omega) (zxs (by omega) (zxu (by omega) (zxu (by omega) p93hf)))
                          | exact zxs (by omega) (zxs (by omega) (zxu (by omega) (zxu (by omega) g81b)))
                          | (exfalso; omega)))
                  | (exfalso; omega)
                · intro h9
                  first
                  | (exfalso
                     rw [tyA_nb hDD hDx.2.2.1 w38.1] at h9
                     exact tyF_f h9)
                  | (rw [tyA_y hDD hD46 hDx.2.2.1 w38.1] at h9 ⊢
                     have em := tSm_s hc w38.1.1
                     first
                     | (have hx : tlX c n (typ s + D + 2000 - tyk s) D (tSk tSm c n (typ s + D)) = -1 := by
                          rw [tyB_9 (show (tKd c (typ s + D) (tSk tSm c n (typ s + D))) = 9 by omega), tkX_0] at h9
                          exact h9
                        have y2 := p68bhok hx
                        have eb := tlX_b hc hx
                        have e9 : v38o.toNat = 9 := by omega
                        rw [tyB_u (show (tKd c (typ s + D) (tSk tSm c n (typ s + D))) = 9 by omega) (tkX_0.trans hx), tkE_0]
                        refine ⟨?_, y2.1, (p68bbbbfr k 30 (by omega) (by omega) (by omega) (by omega) (by omega) (by omega)).trans ((p38bbbfr k 30 (by omega) (by omega) (by omega) (by omega) (by omega) (by omega) (by omega)).trans hls)⟩
                        exact zVO_U hs hg (by omega) (hn0_ w38.1 (by omega)) p68bbhfd9 y2.2.1 ((p68bbbbfr k 16 (by omega) (by omega) (by omega) (by omega) (by omega) (by omega)).trans (p38bbbfr k 16 (by omega) (by omega) (by omega) (by omega) (by omega) (by omega) (by omega))) (fun e => ⟨(p68bbbbfr (k + 10) e (by omega) (by omega) (by omega) (by omega) (by omega) (by omega)).trans (p38bbbfr (k + 10) e (by omega) (by omega) (by omega) (by omega) (by omega) (by omega) (by omega)), (p68bbbbfr (k + 11) e (by omega) (by omega) (by omega) (by omega) (by omega) (by omega)).trans (p38bbbfr (k + 11) e (by omega) (by omega) (by omega) (by omega) (by omega) (by omega) (by omega))⟩)
                          (fun w => ⟨(p68bbbbfr (k + 2) _ (by omega) (by omega) (by omega) (by omega) (by omega) (by omega)).trans ((p38bbhst (by omega) w).1.trans (by omega)), (p68bbbbfr (k + 3) _ (by omega) (by omega) (by omega) (by omega) (by omega) (by omega)).trans (g38b (by omega) w)⟩) y2.2.2 (fun w i hi => ((p38bbhst (by omega) w).2.2.2.2 i hi).trans (by rw [e9]))
                          (fun w x j hx hj => (p68bbbbfr x j (by omega) (by omega) (by omega) (by omega) (by omega) (by omega)).trans (p38bbbfr x j (by omega) (by omega) (by omega) (by omega) (by omega) (by omega) (by omega))) (fun w j hj => (p68bbbbfr (k + 5) j (by omega) (by omega) (by omega) (by omega) (by omega) (by omega)).trans (p38bbbfr (k + 5) j (by omega) (by omega) (by omega) (by omega) (by omega) (by omega) (by omega))) (fun w j hj => (p68bbbbfr (k + 6) j (by omega) (by omega) (by omega) (by omega) (by omega) (by omega)).trans (p38bbbfr (k + 6) j (by omega) (by omega) (by omega) (by omega) (by omega) (by omega) (by omega))) (fun w j hj => (p68bbbbfr (k + 9) j (by omega) (by omega) (by omega) (by omega) (by omega) (by omega)).trans (p38bbbfr (k + 9) j (by omega) (by omega) (by omega) (by omega) (by omega) (by omega) (by omega))) (fun w j hj => p38bbbbfrL (k + 4) j (by omega)))
                     | (by_cases hz : tVz c n 0 ((tKd c (typ s + D) (tSk tSm c n (typ s + D))).toNat) (tSk tSm c n (typ s + D)) (tFv ((tKd c (typ s + D) (tSk tSm c n (typ s + D))).toNat) (tyx s)) = -1
                        · first
                          | (have y3 := p93bhok hz
                             have y2 : v93o = (tVp c n 0 ((tKd c (typ s + D) (tSk tSm c n (typ s + D))).toNat) (tSk tSm c n (typ s + D)) (tFv ((tKd c (typ s + D) (tSk tSm c n (typ s + D))).toNat) (tyx s))) ∧ True := ⟨y3.1, trivial⟩
                             have e1 : v93o.toNat = (tVp c n 0 ((tKd c (typ s + D) (tSk tSm c n (typ s + D))).toNat) (tSk tSm c n (typ s + D)) (tFv ((tKd c (typ s + D) (tSk tSm c n (typ s + D))).toNat) (tyx s))) := by omega
                             rw [e1] at p101hv
                             first
                             | (exfalso
                                rw [tyB_vn (show (tKd c (typ s + D) (tSk tSm c n (typ s + D))) ≠ 9 by omega) hz (by omega)] at h9
                                exact tyF_f h9)
                             | (rw [tyB_v (show (tKd c (typ s + D) (tSk tSm c n (typ s + D))) ≠ 9 by omega) hz (fun _ => by omega)]
                                exact ⟨zVO_O (I1 := I93o) (L1 := L93o) hs hg (a_ := ((tKd c (typ s + D) (tSk tSm c n (typ s + D))).toNat)) (by omega) (by omega) hDx.2.1 zxe (zxs (by omega) (zxs (by omega) (zxu (by omega) (zxu (by omega) ((p93bbfr k 22 (by omega) (by omega) (by omega) (by omega) (by omega)).trans ((p38bbbfr k 22 (by omega) (by omega) (by omega) (by omega) (by omega) (by omega) (by omega)).trans s22)))))) ((zxs (by omega) (zxs (by omega) (zxu (by omega) (zxu (by omega) ((p93bbfr k 16 (by omega) (by omega) (by omega) (by omega) (by omega)).trans ((p38bbbfr k 16 (by omega) (by omega) (by omega) (by omega) (by omega) (by omega) (by omega)).trans (s16 (hn0_ w38.1 (by omega))))))))).trans (tXx_f (by omega)).symm)
                          ⟨zxu (by omega) (zxu (by omega) (zxu (by omega) (zxe' (by omega)))), zxu (by omega) (zxu (by omega) ((zxe' (by omega)).trans (by omega)))⟩ (fun e he => ⟨zxu (by omega) (zxu (by omega) (zxu (by omega) (zxs (by omega) ((p93bbfr (k + 10) e (by omega) (by omega) (by omega) (by omega) (by omega)).trans (p38bbbfr (k + 10) e (by omega) (by omega) (by omega) (by omega) (by omega) (by omega) (by omega)))))), zxu (by omega) (zxu (by omega) (zxs (by omega) (zxu (by omega) ((p93bbfr (k + 11) e (by omega) (by omega) (by omega) (by omega) (by omega)).trans (p38bbbfr (k + 11) e (by omega) (by omega) (by omega) (by omega) (by omega) (by omega) (by omega))))))⟩)
                          (fun w => ⟨(p93bbfr (k + 2) _ (by omega) (by omega) (by omega) (by omega) (by omega)).trans ((p38bbhst (by omega) w).1.trans w38.2.1), (p93bbfr (k + 3) _ (by omega) (by omega) (by omega) (by omega) (by omega)).trans (g38b (by omega) w)⟩) (fun w _ => y3.2 w) (fun w i h1 h2 => (p93bbbfrL (k + 4) _ (by omega) (by omega)).trans (((p38bbhst (by omega) w).2.2.2.2 i h2).trans (by rw [w38.2.1]))) (fun w i h1 h2 => (p93bbfr (k + 5) _ (by omega) (by omega) (by omega) (by omega) (by omega)).trans ((p38bbhst (by omega) w).2.2.2.1 i h2))
                          (fun x j h1 h2 => zxu (by omega) (zxu (by omega) (zxu (by omega) (zxu (by omega) rfl)))) (fun j => rfl)
                          (fun w x j hx hj => (p93bbfr x j (by omega) (by omega) (by omega) (by omega) (by omega)).trans (p38bbbfr x j (by omega) (by omega) (by omega) (by omega) (by omega) (by omega) (by omega))) (fun w j hj => (p93bbfr (k + 5) j (by omega) (by omega) (by omega) (by omega) (by omega)).trans (p38bbbfr (k + 5) j (by omega) (by omega) (by omega) (by omega) (by omega) (by omega) (by omega))) (fun w j hj => (p93bbfr (k + 6) j (by omega) (by omega) (by omega) (by omega) (by omega)).trans (p38bbbfr (k + 6) j (by omega) (by omega) (by omega) (by omega) (by omega) (by omega) (by omega))) (fun w j hj => (p93bbfr (k + 9) j (by omega) (by omega) (by omega) (by omega) (by omega)).trans (p38bbbfr (k + 9) j (by omega) (by omega) (by omega) (by omega) (by omega) (by omega) (by omega))) (fun w j hj => (p93bbbfrL (k + 4) j (by omega) (by omega)).trans (p38bbbbfrL (k + 4) j (by omega))), (by rw [y2.1]; show _ = (((tVp c n 0 ((tKd c (typ s + D) (tSk tSm c n (typ s + D))).toNat) (tSk tSm c n (typ s + D)) (tFv ((tKd c (typ s + D) (tSk tSm c n (typ s + D))).toNat) (tyx s))) + (1 - 0) : Nat) : Int); omega), zxs (by omega) (zxe.trans (show _ = ((D + 1 : Nat) : Int) - 1 by omega))⟩))
                          | (have y2 := g81bb hz
                             have e1 : v81o.toNat = (tVp c n 0 ((tKd c (typ s + D) (tSk tSm c n (typ s + D))).toNat) (tSk tSm c n (typ s + D)) (tFv ((tKd c (typ s + D) (tSk tSm c n (typ s + D))).toNat) (tyx s))) := by omega
                             rw [e1] at p101hv
                             first
                             | (exfalso
                                rw [tyB_vn (show (tKd c (typ s + D) (tSk tSm c n (typ s + D))) ≠ 9 by omega) hz (by omega)] at h9
                                exact tyF_f h9)
                             | (rw [tyB_v (show (tKd c (typ s + D) (tSk tSm c n (typ s + D))) ≠ 9 by omega) hz (fun _ => by omega)]
                                exact ⟨zVO_O (I1 := I81o) (L1 := L81o) hs hg (a_ := ((tKd c (typ s + D) (tSk tSm c n (typ s + D))).toNat)) (by omega) (by omega) hDx.2.1 zxe (zxs (by omega) (zxs (by omega) (zxu (by omega) (zxu (by omega) ((p81bfr k 22 (by omega) (by omega)).trans ((p38bbbfr k 22 (by omega) (by omega) (by omega) (by omega) (by omega) (by omega) (by omega)).trans s22)))))) (zxs (by omega) (zxs (by omega) (zxu (by omega) (zxu (by omega) y2.2))))
                          ⟨zxu (by omega) (zxu (by omega) (zxu (by omega) (zxe' (by omega)))), zxu (by omega) (zxu (by omega) ((zxe' (by omega)).trans (by omega)))⟩ (fun e he => ⟨zxu (by omega) (zxu (by omega) (zxu (by omega) (zxs (by omega) ((p81bfr (k + 10) e (by omega) (by omega)).trans (p38bbbfr (k + 10) e (by omega) (by omega) (by omega) (by omega) (by omega) (by omega) (by omega)))))), zxu (by omega) (zxu (by omega) (zxs (by omega) (zxu (by omega) ((p81bfr (k + 11) e (by omega) (by omega)).trans (p38bbbfr (k + 11) e (by omega) (by omega) (by omega) (by omega) (by omega) (by omega) (by omega))))))⟩)
                          (fun w => ⟨(p81bfr (k + 2) _ (by omega) (by omega)).trans ((p38bbhst (by omega) w).1.trans w38.2.1), (p81bfr (k + 3) _ (by omega) (by omega)).trans (g38b (by omega) w)⟩) (fun w h => absurd (by omega) h) (fun w i h1 h2 => (p81bbfrL (k + 4) _ (by omega)).trans (((p38bbhst (by omega) w).2.2.2.2 i h2).trans (by rw [w38.2.1]))) (fun w i h1 h2 => (p81bfr (k + 5) _ (by omega) (by omega)).trans ((p38bbhst (by omega) w).2.2.2.1 i h2))
                          (fun x j h1 h2 => zxu (by omega) (zxu (by omega) (zxu (by omega) (zxu (by omega) rfl)))) (fun j => rfl)
                          (fun w x j hx hj => (p81bfr x j (by omega) (by omega)).trans (p38bbbfr x j (by omega) (by omega) (by omega) (by omega) (by omega) (by omega) (by omega))) (fun w j hj => (p81bfr (k + 5) j (by omega) (by omega)).trans (p38bbbfr (k + 5) j (by omega) (by omega) (by omega) (by omega) (by omega) (by omega) (by omega))) (fun w j hj => (p81bfr (k + 6) j (by omega) (by omega)).trans (p38bbbfr (k + 6) j (by omega) (by omega) (by omega) (by omega) (by omega) (by omega) (by omega))) (fun w j hj => (p81bfr (k + 9) j (by omega) (by omega)).trans (p38bbbfr (k + 9) j (by omega) (by omega) (by omega) (by omega) (by omega) (by omega) (by omega))) (fun w j hj => (p81bbfrL (k + 4) j (by omega)).trans (p38bbbbfrL (k + 4) j (by omega))), (by rw [y2.1]; show _ = (((tVp c n 0 ((tKd c (typ s + D) (tSk tSm c n (typ s + D))).toNat) (tSk tSm c n (typ s + D)) (tFv ((tKd c (typ s + D) (tSk tSm c n (typ s + D))).toNat) (tyx s))) + (1 - 0) : Nat) : Int); omega), zxs (by omega) (zxe.trans (show _ = ((D + 1 : Nat) : Int) - 1 by omega))⟩))
                        · exfalso
                          rw [tyB_vf hc em.2.1 (show (tKd c (typ s + D) (tSk tSm c n (typ s + D))) ≠ 9 by omega) hz] at h9
                          exact hz h9))
                  | (exfalso; omega)
              · refine And.intro (zDX hD 0 rfl) ⟨_, (zWi (by omega)), ?_⟩
                refine And.intro (zDX hD 0 rfl) (zrdR (v := some (k + 10)) (zDR hD 9 rfl) ?_)
                refine And.intro (zDX hD 0 rfl) (zrd (v := (tyn s)) (zxs (by decide) ((p81bfr k 17 (by omega) (by omega)).trans ((p38bbbfr k 17 (by omega) (by omega) (by omega) (by omega) (by omega) (by omega) (by omega)).trans s17))) ?_)
                refine And.intro ⟨(by show 40 ≤ _; omega), (zDP hD 10 rfl rfl (by omega) (by omega))⟩ ⟨_, (zWi (by omega)), ?_⟩
                refine And.intro (zDX hD 0 rfl) (zrdR (v := some (k + 11)) (zDR hD 10 rfl) ?_)
                refine And.intro ⟨(by show 40 ≤ _; omega), (zDP hD 11 rfl rfl (by omega) (by omega))⟩ ⟨_, (zWi (by omega)), ?_⟩
                refine And.intro (zDX hD 0 rfl) ⟨_, (zWi (by omega)), ?_⟩
                refine And.intro (zDX hD 0 rfl) (zrd (v := (tyn s)) (zxs (by decide) (zxu (by omega) (zxu (by omega) (zxs (by decide) ((p81bfr k 17 (by omega) (by omega)).trans ((p38bbbfr k 17 (by omega) (by omega) (by omega) (by omega) (by omega) (by omega) (by omega)).trans s17)))))) ?_)
                refine And.intro (zDX hD 0 rfl) ⟨_, (zWi (by omega)), ?_⟩
                refine hQ _ _ _ ?_ ?_ (by omega) (fun c j h0 h1 h2 h3 h4 h5 h6 h7 h8 h9 h10 h11 h12 h13 h14 h15 => (zxcj h1 (zxcj h6 (zxu h15 (zxu h14 (zxcj h2 ((p81bfr c j h2 h0).trans ((p38bbbfr c j h2 h3 h4 (fun w => h7 ⟨w.1, w.2.1⟩) (fun w => h8 ⟨w.1, w.2.1⟩) (fun w => h12 ⟨w.1, w.2.1⟩) (fun w => h9 ⟨w.1, w.2.1⟩)).trans rfl)))))))) (fun c j h0 h1 => ((p81bbfrL c j h0).trans ((p38bbbbfrL c j (fun w => h1 ⟨w.1, w.2.1⟩)).trans rfl)))
                · first
                  | (rw [tyA_nb hDD hDx.2.2.1 w38.1]
                     exact w38.2.2)
                  | (rw [tyA_y hDD hD46 hDx.2.2.1 w38.1]
                     have em := tSm_s hc w38.1.1
                     first
                     | (rw [tyB_9 (show (tKd c (typ s + D) (tSk tSm c n (typ s + D))) = 9 by omega), tkX_0]
                        exact p68hf)
                     | (by_cases hz : tVz c n 0 ((tKd c (typ s + D) (tSk tSm c n (typ s + D))).toNat) (tSk tSm c n (typ s + D)) (tFv ((tKd c (typ s + D) (tSk tSm c n (typ s + D))).toNat) (tyx s)) = -1
                        · first
                          | (have y2 := p93bhok hz
                             have e1 : v93o.toNat = (tVp c n 0 ((tKd c (typ s + D) (tSk tSm c n (typ s + D))).toNat) (tSk tSm c n (typ s + D)) (tFv ((tKd c (typ s + D) (tSk tSm c n (typ s + D))).toNat) (tyx s))) := by omega
                             rw [e1] at p101hv
                             first
                             | (rw [tyB_v (show (tKd c (typ s + D) (tSk tSm c n (typ s + D))) ≠ 9 by omega) hz (fun _ => by omega)]
                                exact zxs (by omega) (zxs (by omega) (zxu (by omega) (zxu (by omega) (p93hf.trans hz)))))
                             | (rw [tyB_vn (show (tKd c (typ s + D) (tSk tSm c n (typ s + D))) ≠ 9 by omega) hz (by omega)]
                                exact (zxs (by omega) (zxs (by omega) (zxu (by omega) (zxu (by omega) zxe)))).trans (show _ = (((tVp c n 0 ((tKd c (typ s + D) (tSk tSm c n (typ s + D))).toNat) (tSk tSm c n (typ s + D)) (tFv ((tKd c (typ s + D) (tSk tSm c n (typ s + D))).toNat) (tyx s))) : Nat) : Int) by omega)))
                          | (have y2 := g81bb hz
                             have e1 : v81o.toNat = (tVp c n 0 ((tKd c (typ s + D) (tSk tSm c n (typ s + D))).toNat) (tSk tSm c n (typ s + D)) (tFv ((tKd c (typ s + D) (tSk tSm c n (typ s + D))).toNat) (tyx s))) := by omega
                             rw [e1] at p101hv
                             first
                             | (rw [tyB_v (show (tKd c (typ s + D) (tSk tSm c n (typ s + D))) ≠ 9 by omega) hz (fun _ => by omega)]
                                exact zxs (by omega) (zxs (by omega) (zxu (by omega) (zxu (by omega) (g81b.trans hz)))))
                             | (rw [tyB_vn (show (tKd c (typ s + D) (tSk tSm c n (typ s + D))) ≠ 9 by omega) hz (by omega)]
                                exact (zxs (by omega) (zxs (by omega) (zxu (by omega) (zxu (by omega) zxe)))).trans (show _ = (((tVp c n 0 ((tKd c (typ s + D) (tSk tSm c n (typ s + D))).toNat) (tSk tSm c n (typ s + D)) (tFv ((tKd c (typ s + D) (tSk tSm c n (typ s + D))).toNat) (tyx s))) : Nat) : Int) by omega)))
                        · rw [tyB_vf hc em.2.1 (show (tKd c (typ s + D) (tSk tSm c n (typ s + D))) ≠ 9 by omega) hz]
                          first
                          | exact zxs (by omega) (zxs (by omega) (zxu (by omega) (zxu (by omega) p93hf)))
                          | exact zxs (by omega) (zxs (by omega) (zxu (by omega) (zxu (by omega) g81b)))
                          | (exfalso; omega)))
                  | (exfalso; omega)
                · intro h9
                  first
                  | (exfalso
                     rw [tyA_nb hDD hDx.2.2.1 w38.1] at h9
                     exact tyF_f h9)
                  | (rw [tyA_y hDD hD46 hDx.2.2.1 w38.1] at h9 ⊢
                     have em := tSm_s hc w38.1.1
                     first
                     | (have hx : tlX c n (typ s + D + 2000 - tyk s) D (tSk tSm c n (typ s + D)) = -1 := by
                          rw [tyB_9 (show (tKd c (typ s + D) (tSk tSm c n (typ s + D))) = 9 by omega), tkX_0] at h9
                          exact h9
                        have y2 := p68bhok hx
                        have eb := tlX_b hc hx
                        have e9 : v38o.toNat = 9 := by omega
                        rw [tyB_u (show (tKd c (typ s + D) (tSk tSm c n (typ s + D))) = 9 by omega) (tkX_0.trans hx), tkE_0]
                        refine ⟨?_, y2.1, (p68bbbbfr k 30 (by omega) (by omega) (by omega) (by omega) (by omega) (by omega)).trans ((p38bbbfr k 30 (by omega) (by omega) (by omega) (by omega) (by omega) (by omega) (by omega)).trans hls)⟩
                        exact zVO_U hs hg (by omega) (hn0_ w38.1 (by omega)) p68bbhfd9 y2.2.1 ((p68bbbbfr k 16 (by omega) (by omega) (by omega) (by omega) (by omega) (by omega)).trans (p38bbbfr k 16 (by omega) (by omega) (by omega) (by omega) (by omega) (by omega) (by omega))) (fun e => ⟨(p68bbbbfr (k + 10) e (by omega) (by omega) (by omega) (by omega) (by omega) (by omega)).trans (p38bbbfr (k + 10) e (by omega) (by omega) (by omega) (by omega) (by omega) (by omega) (by omega)), (p68bbbbfr (k + 11) e (by omega) (by omega) (by omega) (by omega) (by omega) (by omega)).trans (p38bbbfr (k + 11) e (by omega) (by omega) (by omega) (by omega) (by omega) (by omega) (by omega))⟩)
                          (fun w => ⟨(p68bbbbfr (k + 2) _ (by omega) (by omega) (by omega) (by omega) (by omega) (by omega)).trans ((p38bbhst (by omega) w).1.trans (by omega)), (p68bbbbfr (k + 3) _ (by omega) (by omega) (by omega) (by omega) (by omega) (by omega)).trans (g38b (by omega) w)⟩) y2.2.2 (fun w i hi => ((p38bbhst (by omega) w).2.2.2.2 i hi).trans (by rw [e9]))
                          (fun w x j hx hj => (p68bbbbfr x j (by omega) (by omega) (by omega) (by omega) (by omega) (by omega)).trans (p38bbbfr x j (by omega) (by omega) (by omega) (by omega) (by omega) (by omega) (by omega))) (fun w j hj => (p68bbbbfr (k + 5) j (by omega) (by omega) (by omega) (by omega) (by omega) (by omega)).trans (p38bbbfr (k + 5) j (by omega) (by omega) (by omega) (by omega) (by omega) (by omega) (by omega))) (fun w j hj => (p68bbbbfr (k + 6) j (by omega) (by omega) (by omega) (by omega) (by omega) (by omega)).trans (p38bbbfr (k + 6) j (by omega) (by omega) (by omega) (by omega) (by omega) (by omega) (by omega))) (fun w j hj => (p68bbbbfr (k + 9) j (by omega) (by omega) (by omega) (by omega) (by omega) (by omega)).trans (p38bbbfr (k + 9) j (by omega) (by omega) (by omega) (by omega) (by omega) (by omega) (by omega))) (fun w j hj => p38bbbbfrL (k + 4) j (by omega)))
                     | (by_cases hz : tVz c n 0 ((tKd c (typ s + D) (tSk tSm c n (typ s + D))).toNat) (tSk tSm c n (typ s + D)) (tFv ((tKd c (typ s + D) (tSk tSm c n (typ s + D))).toNat) (tyx s)) = -1
                        · first
                          | (have y3 := p93bhok hz
                             have y2 : v93o = (tVp c n 0 ((tKd c (typ s + D) (tSk tSm c n (typ s + D))).toNat) (tSk tSm c n (typ s + D)) (tFv ((tKd c (typ s + D) (tSk tSm c n (typ s + D))).toNat) (tyx s))) ∧ True := ⟨y3.1, trivial⟩
                             have e1 : v93o.toNat = (tVp c n 0 ((tKd c (typ s + D) (tSk tSm c n (typ s + D))).toNat) (tSk tSm c n (typ s + D)) (tFv ((tKd c (typ s + D) (tSk tSm c n (typ s + D))).toNat) (tyx s))) := by omega
                             rw [e1] at p101hv
                             first
                             | (exfalso
                                rw [tyB_vn (show (tKd c (typ s + D) (tSk tSm c n (typ s + D))) ≠ 9 by omega) hz (by omega)] at h9
                                exact tyF_f h9)
                             | (rw [tyB_v (show (tKd c (typ s + D) (tSk tSm c n (typ s + D))) ≠ 9 by omega) hz (fun _ => by omega)]
                                exact ⟨zVO_O (I1 := I93o) (L1 := L93o) hs hg (a_ := ((tKd c (typ s + D) (tSk tSm c n (typ s + D))).toNat)) (by omega) (by omega) hDx.2.1 zxe (zxs (by omega) (zxs (by omega) (zxu (by omega) (zxu (by omega) ((p93bbfr k 22 (by omega) (by omega) (by omega) (by omega) (by omega)).trans ((p38bbbfr k 22 (by omega) (by omega) (by omega) (by omega) (by omega) (by omega) (by omega)).trans s22)))))) ((zxs (by omega) (zxs (by omega) (zxu (by omega) (zxu (by omega) ((p93bbfr k 16 (by omega) (by omega) (by omega) (by omega) (by omega)).trans ((p38bbbfr k 16 (by omega) (by omega) (by omega) (by omega) (by omega) (by omega) (by omega)).trans (s16 (hn0_ w38.1 (by omega))))))))).trans (tXx_f (by omega)).symm)
                          ⟨zxu (by omega) (zxu (by omega) (zxu (by omega) (zxe' (by omega)))), zxu (by omega) (zxu (by omega) ((zxe' (by omega)).trans (by omega)))⟩ (fun e he => ⟨zxu (by omega) (zxu (by omega) (zxu (by omega) (zxs (by omega) ((p93bbfr (k + 10) e (by omega) (by omega) (by omega) (by omega) (by omega)).trans (p38bbbfr (k + 10) e (by omega) (by omega) (by omega) (by omega) (by omega) (by omega) (by omega)))))), zxu (by omega) (zxu (by omega) (zxs (by omega) (zxu (by omega) ((p93bbfr (k + 11) e (by omega) (by omega) (by omega) (by omega) (by omega)).trans (p38bbbfr (k + 11) e (by omega) (by omega) (by omega) (by omega) (by omega) (by omega) (by omega))))))⟩)
                          (fun w => ⟨(p93bbfr (k + 2) _ (by omega) (by omega) (by omega) (by omega) (by omega)).trans ((p38bbhst (by omega) w).1.trans w38.2.1), (p93bbfr (k + 3) _ (by omega) (by omega) (by omega) (by omega) (by omega)).trans (g38b (by omega) w)⟩) (fun w _ => y3.2 w) (fun w i h1 h2 => (p93bbbfrL (k + 4) _ (by omega) (by omega)).trans (((p38bbhst (by omega) w).2.2.2.2 i h2).trans (by rw [w38.2.1]))) (fun w i h1 h2 => (p93bbfr (k + 5) _ (by omega) (by omega) (by omega) (by omega) (by omega)).trans ((p38bbhst (by omega) w).2.2.2.1 i h2))
                          (fun x j h1 h2 => zxu (by omega) (zxu (by omega) (zxu (by omega) (zxu (by omega) rfl)))) (fun j => rfl)
                          (fun w x j hx hj => (p93bbfr x j (by omega) (by omega) (by omega) (by omega) (by omega)).trans (p38bbbfr x j (by omega) (by omega) (by omega) (by omega) (by omega) (by omega) (by omega))) (fun w j hj => (p93bbfr (k + 5) j (by omega) (by omega) (by omega) (by omega) (by omega)).trans (p38bbbfr (k + 5) j (by omega) (by omega) (by omega) (by omega) (by omega) (by omega) (by omega))) (fun w j hj => (p93bbfr (k + 6) j (by omega) (by omega) (by omega) (by omega) (by omega)).trans (p38bbbfr (k + 6) j (by omega) (by omega) (by omega) (by omega) (by omega) (by omega) (by omega))) (fun w j hj => (p93bbfr (k + 9) j (by omega) (by omega) (by omega) (by omega) (by omega)).trans (p38bbbfr (k + 9) j (by omega) (by omega) (by omega) (by omega) (by omega) (by omega) (by omega))) (fun w j hj => (p93bbbfrL (k + 4) j (by omega) (by omega)).trans (p38bbbbfrL (k + 4) j (by omega))), (by rw [y2.1]; show _ = (((tVp c n 0 ((tKd c (typ s + D) (tSk tSm c n (typ s + D))).toNat) (tSk tSm c n (typ s + D)) (tFv ((tKd c (typ s + D) (tSk tSm c n (typ s + D))).toNat) (tyx s))) + (1 - 0) : Nat) : Int); omega), zxs (by omega) (zxe.trans (show _ = ((D + 1 : Nat) : Int) - 1 by omega))⟩))
                          | (have y2 := g81bb hz
                             have e1 : v81o.toNat = (tVp c n 0 ((tKd c (typ s + D) (tSk tSm c n (typ s + D))).toNat) (tSk tSm c n (typ s + D)) (tFv ((tKd c (typ s + D) (tSk tSm c n (typ s + D))).toNat) (tyx s))) := by omega
                             rw [e1] at p101hv
                             first
                             | (exfalso
                                rw [tyB_vn (show (tKd c (typ s + D) (tSk tSm c n (typ s + D))) ≠ 9 by omega) hz (by omega)] at h9
                                exact tyF_f h9)
                             | (rw [tyB_v (show (tKd c (typ s + D) (tSk tSm c n (typ s + D))) ≠ 9 by omega) hz (fun _ => by omega)]
                                exact ⟨zVO_O (I1 := I81o) (L1 := L81o) hs hg (a_ := ((tKd c (typ s + D) (tSk tSm c n (typ s + D))).toNat)) (by omega) (by omega) hDx.2.1 zxe (zxs (by omega) (zxs (by omega) (zxu (by omega) (zxu (by omega) ((p81bfr k 22 (by omega) (by omega)).trans ((p38bbbfr k 22 (by omega) (by omega) (by omega) (by omega) (by omega) (by omega) (by omega)).trans s22)))))) (zxs (by omega) (zxs (by omega) (zxu (by omega) (zxu (by omega) y2.2))))
                          ⟨zxu (by omega) (zxu (by omega) (zxu (by omega) (zxe' (by omega)))), zxu (by omega) (zxu (by omega) ((zxe' (by omega)).trans (by omega)))⟩ (fun e he => ⟨zxu (by omega) (zxu (by omega) (zxu (by omega) (zxs (by omega) ((p81bfr (k + 10) e (by omega) (by omega)).trans (p38bbbfr (k + 10) e (by omega) (by omega) (by omega) (by omega) (by omega) (by omega) (by omega)))))), zxu (by omega) (zxu (by omega) (zxs (by omega) (zxu (by omega) ((p81bfr (k + 11) e (by omega) (by omega)).trans (p38bbbfr (k + 11) e (by omega) (by omega) (by omega) (by omega) (by omega) (by omega) (by omega))))))⟩)
                          (fun w => ⟨(p81bfr (k + 2) _ (by omega) (by omega)).trans ((p38bbhst (by omega) w).1.trans w38.2.1), (p81bfr (k + 3) _ (by omega) (by omega)).trans (g38b (by omega) w)⟩) (fun w h => absurd (by omega) h) (fun w i h1 h2 => (p81bbfrL (k + 4) _ (by omega)).trans (((p38bbhst (by omega) w).2.2.2.2 i h2).trans (by rw [w38.2.1]))) (fun w i h1 h2 => (p81bfr (k + 5) _ (by omega) (by omega)).trans ((p38bbhst (by omega) w).2.2.2.1 i h2))
                          (fun x j h1 h2 => zxu (by omega) (zxu (by omega) (zxu (by omega) (zxu (by omega) rfl)))) (fun j => rfl)
                          (fun w x j hx hj => (p81bfr x j (by omega) (by omega)).trans (p38bbbfr x j (by omega) (by omega) (by omega) (by omega) (by omega) (by omega) (by omega))) (fun w j hj => (p81bfr (k + 5) j (by omega) (by omega)).trans (p38bbbfr (k + 5) j (by omega) (by omega) (by omega) (by omega) (by omega) (by omega) (by omega))) (fun w j hj => (p81bfr (k + 6) j (by omega) (by omega)).trans (p38bbbfr (k + 6) j (by omega) (by omega) (by omega) (by omega) (by omega) (by omega) (by omega))) (fun w j hj => (p81bfr (k + 9) j (by omega) (by omega)).trans (p38bbbfr (k + 9) j (by omega) (by omega) (by omega) (by omega) (by omega) (by omega) (by omega))) (fun w j hj => (p81bbfrL (k + 4) j (by omega)).trans (p38bbbbfrL (k + 4) j (by omega))), (by rw [y2.1]; show _ = (((tVp c n 0 ((tKd c (typ s + D) (tSk tSm c n (typ s + D))).toNat) (tSk tSm c n (typ s + D)) (tFv ((tKd c (typ s + D) (tSk tSm c n (typ s + D))).toNat) (tyx s))) + (1 - 0) : Nat) : Int); omega), zxs (by omega) (zxe.trans (show _ = ((D + 1 : Nat) : Int) - 1 by omega))⟩))
                        · exfalso
                          rw [tyB_vf hc em.2.1 (show (tKd c (typ s + D) (tSk tSm c n (typ s + D))) ≠ 9 by omega) hz] at h9
                          exact hz h9))
                  | (exfalso; omega)
        · refine And.intro (zDX hD 0 rfl) ⟨_, sn_V_unk.up (by decide), ?_⟩
          refine ⟨_, _, _, mk, (tyn s), (typ s + D + 2000 - tyk s), (tSk tSm c n (typ s + D)), (tyk s), ((p + d) : Int), (typ s + D), (d : Int), D, rfl, hD, (by first | exact (zRM_fr hX (fun c j h => ((p38bbbfr c j (by omega) (by omega) (by omega) (by omega) (by omega) (by omega) (by omega)).trans rfl))) | (clear hQ; grind [xu])), (by first | exact hc | (clear hQ; grind [xu])), ((p38bbbfr k 15 (by omega) (by omega) (by omega) (by omega) (by omega) (by omega) (by omega)).trans hmk), (by omega), ((p38bbbfr k 17 (by omega) (by omega) (by omega) (by omega) (by omega) (by omega) (by omega)).trans s17), (by omega), ⟨by omega, by omega⟩, (by omega), (by omega), (tSk_sp (P := tSm) (p := (typ s + D)) hc tSm_no).2.2.1, (by omega), ((p38bbbfr k 22 (by omega) (by omega) (by omega) (by omega) (by omega) (by omega) (by omega)).trans s22), (by omega), (fun e => (p38bbhst (by omega) e).2.2.1), (Eq.trans (b := ((-1) : Int)) w38.2.2.1 (by omega)), ?_⟩
          intro v68o I68o p68hf p68bhok p68bbhfd9 p68bbbhvb p68bbbbfr
          refine hQ _ _ _ ?_ ?_ (by omega) (fun c j h0 h1 h2 h3 h4 h5 h6 h7 h8 h9 h10 h11 h12 h13 h14 h15 => ((p68bbbbfr c j h1 h2 h5 (fun w => h11 ⟨w.1, w.2.1⟩) (fun w => h12 ⟨w.1, w.2.1⟩) (fun w => h13 ⟨w.1, w.2.1⟩)).trans ((p38bbbfr c j h2 h3 h4 (fun w => h7 ⟨w.1, w.2.1⟩) (fun w => h8 ⟨w.1, w.2.1⟩) (fun w => h12 ⟨w.1, w.2.1⟩) (fun w => h9 ⟨w.1, w.2.1⟩)).trans rfl))) (fun c j h0 h1 => ((p38bbbbfrL c j (fun w => h1 ⟨w.1, w.2.1⟩)).trans rfl))
          · first
            | (rw [tyA_nb hDD hDx.2.2.1 w38.1]
               exact w38.2.2)
            | (rw [tyA_y hDD hD46 hDx.2.2.1 w38.1]
               have em := tSm_s hc w38.1.1
               first
               | (rw [tyB_9 (show (tKd c (typ s + D) (tSk tSm c n (typ s + D))) = 9 by omega), tkX_0]
                  exact p68hf)
               | (by_cases hz : tVz c n 0 ((tKd c (typ s + D) (tSk tSm c n (typ s + D))).toNat) (tSk tSm c n (typ s + D)) (tFv ((tKd c (typ s + D) (tSk tSm c n (typ s + D))).toNat) (tyx s)) = -1
                  · first
                    | (have y2 := p93bhok hz
                       have e1 : v93o.toNat = (tVp c n 0 ((tKd c (typ s + D) (tSk tSm c n (typ s + D))).toNat) (tSk tSm c n (typ s + D)) (tFv ((tKd c (typ s + D) (tSk tSm c n (typ s + D))).toNat) (tyx s))) := by omega
                       rw [e1] at p101hv
                       first
                       | (rw [tyB_v (show (tKd c (typ s + D) (tSk tSm c n (typ s + D))) ≠ 9 by omega) hz (fun _ => by omega)]
                          exact zxs (by omega) (zxs (by omega) (zxu (by omega) (zxu (by omega) (p93hf.trans hz)))))
                       | (rw [tyB_vn (show (tKd c (typ s + D) (tSk tSm c n (typ s + D))) ≠ 9 by omega) hz (by omega)]
                          exact (zxs (by omega) (zxs (by omega) (zxu (by omega) (zxu (by omega) zxe)))).trans (show _ = (((tVp c n 0 ((tKd c (typ s + D) (tSk tSm c n (typ s + D))).toNat) (tSk tSm c n (typ s + D)) (tFv ((tKd c (typ s + D) (tSk tSm c n (typ s + D))).toNat) (tyx s))) : Nat) : Int) by omega)))
                    | (have y2 := g81bb hz
                       have e1 : v81o.toNat = (tVp c n 0 ((tKd c (typ s + D) (tSk tSm c n (typ s + D))).toNat) (tSk tSm c n (typ s + D)) (tFv ((tKd c (typ s + D) (tSk tSm c n (typ s + D))).toNat) (tyx s))) := by omega
                       rw [e1] at p101hv
                       first
                       | (rw [tyB_v (show (tKd c (typ s + D) (tSk tSm c n (typ s + D))) ≠ 9 by omega) hz (fun _ => by omega)]
                          exact zxs (by omega) (zxs (by omega) (zxu (by omega) (zxu (by omega) (g81b.trans hz)))))
                       | (rw [tyB_vn (show (tKd c (typ s + D) (tSk tSm c n (typ s + D))) ≠ 9 by omega) hz (by omega)]
                          exact (zxs (by omega) (zxs (by omega) (zxu (by omega) (zxu (by omega) zxe)))).trans (show _ = (((tVp c n 0 ((tKd c (typ s + D) (tSk tSm c n (typ s + D))).toNat) (tSk tSm c n (typ s + D)) (tFv ((tKd c (typ s + D) (tSk tSm c n (typ s + D))).toNat) (tyx s))) : Nat) : Int) by omega)))
                  · rw [tyB_vf hc em.2.1 (show (tKd c (typ s + D) (tSk tSm c n (typ s + D))) ≠ 9 by omega) hz]
                    first
                    | exact zxs (by omega) (zxs (by omega) (zxu (by omega) (zxu (by omega) p93hf)))
                    | exact zxs (by omega) (zxs (by omega) (zxu (by omega) (zxu (by omega) g81b)))
                    | (exfalso; omega)))
            | (exfalso; omega)
          · intro h9
            first
            | (exfalso
               rw [tyA_nb hDD hDx.2.2.1 w38.1] at h9
               exact tyF_f h9)
            | (rw [tyA_y hDD hD46 hDx.2.2.1 w38.1] at h9 ⊢
               have em := tSm_s hc w38.1.1
               first
               | (have hx : tlX c n (typ s + D + 2000 - tyk s) D (tSk tSm c n (typ s + D)) = -1 := by
                    rw [tyB_9 (show (tKd c (typ s + D) (tSk tSm c n (typ s + D))) = 9 by omega), tkX_0] at h9
                    exact h9
                  have y2 := p68bhok hx
                  have eb := tlX_b hc hx
                  have e9 : v38o.toNat = 9 := by omega
                  rw [tyB_u (show (tKd c (typ s + D) (tSk tSm c n (typ s + D))) = 9 by omega) (tkX_0.trans hx), tkE_0]
                  refine ⟨?_, y2.1, (p68bbbbfr k 30 (by omega) (by omega) (by omega) (by omega) (by omega) (by omega)).trans ((p38bbbfr k 30 (by omega) (by omega) (by omega) (by omega) (by omega) (by omega) (by omega)).trans hls)⟩
                  exact zVO_U hs hg (by omega) (hn0_ w38.1 (by omega)) p68bbhfd9 y2.2.1 ((p68bbbbfr k 16 (by omega) (by omega) (by omega) (by omega) (by omega) (by omega)).trans (p38bbbfr k 16 (by omega) (by omega) (by omega) (by omega) (by omega) (by omega) (by omega))) (fun e => ⟨(p68bbbbfr (k + 10) e (by omega) (by omega) (by omega) (by omega) (by omega) (by omega)).trans (p38bbbfr (k + 10) e (by omega) (by omega) (by omega) (by omega) (by omega) (by omega) (by omega)), (p68bbbbfr (k + 11) e (by omega) (by omega) (by omega) (by omega) (by omega) (by omega)).trans (p38bbbfr (k + 11) e (by omega) (by omega) (by omega) (by omega) (by omega) (by omega) (by omega))⟩)
                    (fun w => ⟨(p68bbbbfr (k + 2) _ (by omega) (by omega) (by omega) (by omega) (by omega) (by omega)).trans ((p38bbhst (by omega) w).1.trans (by omega)), (p68bbbbfr (k + 3) _ (by omega) (by omega) (by omega) (by omega) (by omega) (by omega)).trans (g38b (by omega) w)⟩) y2.2.2 (fun w i hi => ((p38bbhst (by omega) w).2.2.2.2 i hi).trans (by rw [e9]))
                    (fun w x j hx hj => (p68bbbbfr x j (by omega) (by omega) (by omega) (by omega) (by omega) (by omega)).trans (p38bbbfr x j (by omega) (by omega) (by omega) (by omega) (by omega) (by omega) (by omega))) (fun w j hj => (p68bbbbfr (k + 5) j (by omega) (by omega) (by omega) (by omega) (by omega) (by omega)).trans (p38bbbfr (k + 5) j (by omega) (by omega) (by omega) (by omega) (by omega) (by omega) (by omega))) (fun w j hj => (p68bbbbfr (k + 6) j (by omega) (by omega) (by omega) (by omega) (by omega) (by omega)).trans (p38bbbfr (k + 6) j (by omega) (by omega) (by omega) (by omega) (by omega) (by omega) (by omega))) (fun w j hj => (p68bbbbfr (k + 9) j (by omega) (by omega) (by omega) (by omega) (by omega) (by omega)).trans (p38bbbfr (k + 9) j (by omega) (by omega) (by omega) (by omega) (by omega) (by omega) (by omega))) (fun w j hj => p38bbbbfrL (k + 4) j (by omega)))
               | (by_cases hz : tVz c n 0 ((tKd c (typ s + D) (tSk tSm c n (typ s + D))).toNat) (tSk tSm c n (typ s + D)) (tFv ((tKd c (typ s + D) (tSk tSm c n (typ s + D))).toNat) (tyx s)) = -1
                  · first
                    | (have y3 := p93bhok hz
                       have y2 : v93o = (tVp c n 0 ((tKd c (typ s + D) (tSk tSm c n (typ s + D))).toNat) (tSk tSm c n (typ s + D)) (tFv ((tKd c (typ s + D) (tSk tSm c n (typ s + D))).toNat) (tyx s))) ∧ True := ⟨y3.1, trivial⟩
                       have e1 : v93o.toNat = (tVp c n 0 ((tKd c (typ s + D) (tSk tSm c n (typ s + D))).toNat) (tSk tSm c n (typ s + D)) (tFv ((tKd c (typ s + D) (tSk tSm c n (typ s + D))).toNat) (tyx s))) := by omega
                       rw [e1] at p101hv
                       first
                       | (exfalso
                          rw [tyB_vn (show (tKd c (typ s + D) (tSk tSm c n (typ s + D))) ≠ 9 by omega) hz (by omega)] at h9
                          exact tyF_f h9)
                       | (rw [tyB_v (show (tKd c (typ s + D) (tSk tSm c n (typ s + D))) ≠ 9 by omega) hz (fun _ => by omega)]
                          exact ⟨zVO_O (I1 := I93o) (L1 := L93o) hs hg (a_ := ((tKd c (typ s + D) (tSk tSm c n (typ s + D))).toNat)) (by omega) (by omega) hDx.2.1 zxe (zxs (by omega) (zxs (by omega) (zxu (by omega) (zxu (by omega) ((p93bbfr k 22 (by omega) (by omega) (by omega) (by omega) (by omega)).trans ((p38bbbfr k 22 (by omega) (by omega) (by omega) (by omega) (by omega) (by omega) (by omega)).trans s22)))))) ((zxs (by omega) (zxs (by omega) (zxu (by omega) (zxu (by omega) ((p93bbfr k 16 (by omega) (by omega) (by omega) (by omega) (by omega)).trans ((p38bbbfr k 16 (by omega) (by omega) (by omega) (by omega) (by omega) (by omega) (by omega)).trans (s16 (hn0_ w38.1 (by omega))))))))).trans (tXx_f (by omega)).symm)
                    ⟨zxu (by omega) (zxu (by omega) (zxu (by omega) (zxe' (by omega)))), zxu (by omega) (zxu (by omega) ((zxe' (by omega)).trans (by omega)))⟩ (fun e he => ⟨zxu (by omega) (zxu (by omega) (zxu (by omega) (zxs (by omega) ((p93bbfr (k + 10) e (by omega) (by omega) (by omega) (by omega) (by omega)).trans (p38bbbfr (k + 10) e (by omega) (by omega) (by omega) (by omega) (by omega) (by omega) (by omega)))))), zxu (by omega) (zxu (by omega) (zxs (by omega) (zxu (by omega) ((p93bbfr (k + 11) e (by omega) (by omega) (by omega) (by omega) (by omega)).trans (p38bbbfr (k + 11) e (by omega) (by omega) (by omega) (by omega) (by omega) (by omega) (by omega))))))⟩)
                    (fun w => ⟨(p93bbfr (k + 2) _ (by omega) (by omega) (by omega) (by omega) (by omega)).trans ((p38bbhst (by omega) w).1.trans w38.2.1), (p93bbfr (k + 3) _ (by omega) (by omega) (by omega) (by omega) (by omega)).trans (g38b (by omega) w)⟩) (fun w _ => y3.2 w) (fun w i h1 h2 => (p93bbbfrL (k + 4) _ (by omega) (by omega)).trans (((p38bbhst (by omega) w).2.2.2.2 i h2).trans (by rw [w38.2.1]))) (fun w i h1 h2 => (p93bbfr (k + 5) _ (by omega) (by omega) (by omega) (by omega) (by omega)).trans ((p38bbhst (by omega) w).2.2.2.1 i h2))
                    (fun x j h1 h2 => zxu (by omega) (zxu (by omega) (zxu (by omega) (zxu (by omega) rfl)))) (fun j => rfl)
                    (fun w x j hx hj => (p93bbfr x j (by omega) (by omega) (by omega) (by omega) (by omega)).trans (p38bbbfr x j (by omega) (by omega) (by omega) (by omega) (by omega) (by omega) (by omega))) (fun w j hj => (p93bbfr (k + 5) j (by omega) (by omega) (by omega) (by omega) (by omega)).trans (p38bbbfr (k + 5) j (by omega) (by omega) (by omega) (by omega) (by omega) (by omega) (by omega))) (fun w j hj => (p93bbfr (k + 6) j (by omega) (by omega) (by omega) (by omega) (by omega)).trans (p38bbbfr (k + 6) j (by omega) (by omega) (by omega) (by omega) (by omega) (by omega) (by omega))) (fun w j hj => (p93bbfr (k + 9) j (by omega) (by omega) (by omega) (by omega) (by omega)).trans (p38bbbfr (k + 9) j (by omega) (by omega) (by omega) (by omega) (by omega) (by omega) (by omega))) (fun w j hj => (p93bbbfrL (k + 4) j (by omega) (by omega)).trans (p38bbbbfrL (k + 4) j (by omega))), (by rw [y2.1]; show _ = (((tVp c n 0 ((tKd c (typ s + D) (tSk tSm c n (typ s + D))).toNat) (tSk tSm c n (typ s + D)) (tFv ((tKd c (typ s + D) (tSk tSm c n (typ s + D))).toNat) (tyx s))) + (1 - 0) : Nat) : Int); omega), zxs (by omega) (zxe.trans (show _ = ((D + 1 : Nat) : Int) - 1 by omega))⟩))
                    | (have y2 := g81bb hz
                       have e1 : v81o.toNat = (tVp c n 0 ((tKd c (typ s + D) (tSk tSm c n (typ s + D))).toNat) (tSk tSm c n (typ s + D)) (tFv ((tKd c (typ s + D) (tSk tSm c n (typ s + D))).toNat) (tyx s))) := by omega
                       rw [e1] at p101hv
                       first
                       | (exfalso
                          rw [tyB_vn (show (tKd c (typ s + D) (tSk tSm c n (typ s + D))) ≠ 9 by omega) hz (by omega)] at h9
                          exact tyF_f h9)
                       | (rw [tyB_v (show (tKd c (typ s + D) (tSk tSm c n (typ s + D))) ≠ 9 by omega) hz (fun _ => by omega)]
                          exact ⟨zVO_O (I1 := I81o) (L1 := L81o) hs hg (a_ := ((tKd c (typ s + D) (tSk tSm c n (typ s + D))).toNat)) (by omega) (by omega) hDx.2.1 zxe (zxs (by omega) (zxs (by omega) (zxu (by omega) (zxu (by omega) ((p81bfr k 22 (by omega) (by omega)).trans ((p38bbbfr k 22 (by omega) (by omega) (by omega) (by omega) (by omega) (by omega) (by omega)).trans s22)))))) (zxs (by omega) (zxs (by omega) (zxu (by omega) (zxu (by omega) y2.2))))
                    ⟨zxu (by omega) (zxu (by omega) (zxu (by omega) (zxe' (by omega)))), zxu (by omega) (zxu (by omega) ((zxe' (by omega)).trans (by omega)))⟩ (fun e he => ⟨zxu (by omega) (zxu (by omega) (zxu (by omega) (zxs (by omega) ((p81bfr (k + 10) e (by omega) (by omega)).trans (p38bbbfr (k + 10) e (by omega) (by omega) (by omega) (by omega) (by omega) (by omega) (by omega)))))), zxu (by omega) (zxu (by omega) (zxs (by omega) (zxu (by omega) ((p81bfr (k + 11) e (by omega) (by omega)).trans (p38bbbfr (k + 11) e (by omega) (by omega) (by omega) (by omega) (by omega) (by omega) (by omega))))))⟩)
                    (fun w => ⟨(p81bfr (k + 2) _ (by omega) (by omega)).trans ((p38bbhst (by omega) w).1.trans w38.2.1), (p81bfr (k + 3) _ (by omega) (by omega)).trans (g38b (by omega) w)⟩) (fun w h => absurd (by omega) h) (fun w i h1 h2 => (p81bbfrL (k + 4) _ (by omega)).trans (((p38bbhst (by omega) w).2.2.2.2 i h2).trans (by rw [w38.2.1]))) (fun w i h1 h2 => (p81bfr (k + 5) _ (by omega) (by omega)).trans ((p38bbhst (by omega) w).2.2.2.1 i h2))
                    (fun x j h1 h2 => zxu (by omega) (zxu (by omega) (zxu (by omega) (zxu (by omega) rfl)))) (fun j => rfl)
                    (fun w x j hx hj => (p81bfr x j (by omega) (by omega)).trans (p38bbbfr x j (by omega) (by omega) (by omega) (by omega) (by omega) (by omega) (by omega))) (fun w j hj => (p81bfr (k + 5) j (by omega) (by omega)).trans (p38bbbfr (k + 5) j (by omega) (by omega) (by omega) (by omega) (by omega) (by omega) (by omega))) (fun w j hj => (p81bfr (k + 6) j (by omega) (by omega)).trans (p38bbbfr (k + 6) j (by omega) (by omega) (by omega) (by omega) (by omega) (by omega) (by omega))) (fun w j hj => (p81bfr (k + 9) j (by omega) (by omega)).trans (p38bbbfr (k + 9) j (by omega) (by omega) (by omega) (by omega) (by omega) (by omega) (by omega))) (fun w j hj => (p81bbfrL (k + 4) j (by omega)).trans (p38bbbbfrL (k + 4) j (by omega))), (by rw [y2.1]; show _ = (((tVp c n 0 ((tKd c (typ s + D) (tSk tSm c n (typ s + D))).toNat) (tSk tSm c n (typ s + D)) (tFv ((tKd c (typ s + D) (tSk tSm c n (typ s + D))).toNat) (tyx s))) + (1 - 0) : Nat) : Int); omega), zxs (by omega) (zxe.trans (show _ = ((D + 1 : Nat) : Int) - 1 by omega))⟩))
                  · exfalso
                    rw [tyB_vf hc em.2.1 (show (tKd c (typ s + D) (tSk tSm c n (typ s + D))) ≠ 9 by omega) hz] at h9
                    exact hz h9))
            | (exfalso; omega)
      · refine hQ _ _ _ ?_ ?_ (by omega) (fun c j h0 h1 h2 h3 h4 h5 h6 h7 h8 h9 h10 h11 h12 h13 h14 h15 => ((p38bbbfr c j h2 h3 h4 (fun w => h7 ⟨w.1, w.2.1⟩) (fun w => h8 ⟨w.1, w.2.1⟩) (fun w => h12 ⟨w.1, w.2.1⟩) (fun w => h9 ⟨w.1, w.2.1⟩)).trans rfl)) (fun c j h0 h1 => ((p38bbbbfrL c j (fun w => h1 ⟨w.1, w.2.1⟩)).trans rfl))
        · first
          | (rw [tyA_nb hDD hDx.2.2.1 w38.1]
             exact w38.2.2)
          | (rw [tyA_y hDD hD46 hDx.2.2.1 w38.1]
             have em := tSm_s hc w38.1.1
             first
             | (rw [tyB_9 (show (tKd c (typ s + D) (tSk tSm c n (typ s + D))) = 9 by omega), tkX_0]
                exact p68hf)
             | (by_cases hz : tVz c n 0 ((tKd c (typ s + D) (tSk tSm c n (typ s + D))).toNat) (tSk tSm c n (typ s + D)) (tFv ((tKd c (typ s + D) (tSk tSm c n (typ s + D))).toNat) (tyx s)) = -1
                · first
                  | (have y2 := p93bhok hz
                     have e1 : v93o.toNat = (tVp c n 0 ((tKd c (typ s + D) (tSk tSm c n (typ s + D))).toNat) (tSk tSm c n (typ s + D)) (tFv ((tKd c (typ s + D) (tSk tSm c n (typ s + D))).toNat) (tyx s))) := by omega
                     rw [e1] at p101hv
                     first
                     | (rw [tyB_v (show (tKd c (typ s + D) (tSk tSm c n (typ s + D))) ≠ 9 by omega) hz (fun _ => by omega)]
                        exact zxs (by omega) (zxs (by omega) (zxu (by omega) (zxu (by omega) (p93hf.trans hz)))))
                     | (rw [tyB_vn (show (tKd c (typ s + D) (tSk tSm c n (typ s + D))) ≠ 9 by omega) hz (by omega)]
                        exact (zxs (by omega) (zxs (by omega) (zxu (by omega) (zxu (by omega) zxe)))).trans (show _ = (((tVp c n 0 ((tKd c (typ s + D) (tSk tSm c n (typ s + D))).toNat) (tSk tSm c n (typ s + D)) (tFv ((tKd c (typ s + D) (tSk tSm c n (typ s + D))).toNat) (tyx s))) : Nat) : Int) by omega)))
                  | (have y2 := g81bb hz
                     have e1 : v81o.toNat = (tVp c n 0 ((tKd c (typ s + D) (tSk tSm c n (typ s + D))).toNat) (tSk tSm c n (typ s + D)) (tFv ((tKd c (typ s + D) (tSk tSm c n (typ s + D))).toNat) (tyx s))) := by omega
                     rw [e1] at p101hv
                     first
                     | (rw [tyB_v (show (tKd c (typ s + D) (tSk tSm c n (typ s + D))) ≠ 9 by omega) hz (fun _ => by omega)]
                        exact zxs (by omega) (zxs (by omega) (zxu (by omega) (zxu (by omega) (g81b.trans hz)))))
                     | (rw [tyB_vn (show (tKd c (typ s + D) (tSk tSm c n (typ s + D))) ≠ 9 by omega) hz (by omega)]
                        exact (zxs (by omega) (zxs (by omega) (zxu (by omega) (zxu (by omega) zxe)))).trans (show _ = (((tVp c n 0 ((tKd c (typ s + D) (tSk tSm c n (typ s + D))).toNat) (tSk tSm c n (typ s + D)) (tFv ((tKd c (typ s + D) (tSk tSm c n (typ s + D))).toNat) (tyx s))) : Nat) : Int) by omega)))
                · rw [tyB_vf hc em.2.1 (show (tKd c (typ s + D) (tSk tSm c n (typ s + D))) ≠ 9 by omega) hz]
                  first
                  | exact zxs (by omega) (zxs (by omega) (zxu (by omega) (zxu (by omega) p93hf)))
                  | exact zxs (by omega) (zxs (by omega) (zxu (by omega) (zxu (by omega) g81b)))
                  | (exfalso; omega)))
          | (exfalso; omega)
        · intro h9
          first
          | (exfalso
             rw [tyA_nb hDD hDx.2.2.1 w38.1] at h9
             exact tyF_f h9)
          | (rw [tyA_y hDD hD46 hDx.2.2.1 w38.1] at h9 ⊢
             have em := tSm_s hc w38.1.1
             first
             | (have hx : tlX c n (typ s + D + 2000 - tyk s) D (tSk tSm c n (typ s + D)) = -1 := by
                  rw [tyB_9 (show (tKd c (typ s + D) (tSk tSm c n (typ s + D))) = 9 by omega), tkX_0] at h9
                  exact h9
                have y2 := p68bhok hx
                have eb := tlX_b hc hx
                have e9 : v38o.toNat = 9 := by omega
                rw [tyB_u (show (tKd c (typ s + D) (tSk tSm c n (typ s + D))) = 9 by omega) (tkX_0.trans hx), tkE_0]
                refine ⟨?_, y2.1, (p68bbbbfr k 30 (by omega) (by omega) (by omega) (by omega) (by omega) (by omega)).trans ((p38bbbfr k 30 (by omega) (by omega) (by omega) (by omega) (by omega) (by omega) (by omega)).trans hls)⟩
                exact zVO_U hs hg (by omega) (hn0_ w38.1 (by omega)) p68bbhfd9 y2.2.1 ((p68bbbbfr k 16 (by omega) (by omega) (by omega) (by omega) (by omega) (by omega)).trans (p38bbbfr k 16 (by omega) (by omega) (by omega) (by omega) (by omega) (by omega) (by omega))) (fun e => ⟨(p68bbbbfr (k + 10) e (by omega) (by omega) (by omega) (by omega) (by omega) (by omega)).trans (p38bbbfr (k + 10) e (by omega) (by omega) (by omega) (by omega) (by omega) (by omega) (by omega)), (p68bbbbfr (k + 11) e (by omega) (by omega) (by omega) (by omega) (by omega) (by omega)).trans (p38bbbfr (k + 11) e (by omega) (by omega) (by omega) (by omega) (by omega) (by omega) (by omega))⟩)
                  (fun w => ⟨(p68bbbbfr (k + 2) _ (by omega) (by omega) (by omega) (by omega) (by omega) (by omega)).trans ((p38bbhst (by omega) w).1.trans (by omega)), (p68bbbbfr (k + 3) _ (by omega) (by omega) (by omega) (by omega) (by omega) (by omega)).trans (g38b (by omega) w)⟩) y2.2.2 (fun w i hi => ((p38bbhst (by omega) w).2.2.2.2 i hi).trans (by rw [e9]))
                  (fun w x j hx hj => (p68bbbbfr x j (by omega) (by omega) (by omega) (by omega) (by omega) (by omega)).trans (p38bbbfr x j (by omega) (by omega) (by omega) (by omega) (by omega) (by omega) (by omega))) (fun w j hj => (p68bbbbfr (k + 5) j (by omega) (by omega) (by omega) (by omega) (by omega) (by omega)).trans (p38bbbfr (k + 5) j (by omega) (by omega) (by omega) (by omega) (by omega) (by omega) (by omega))) (fun w j hj => (p68bbbbfr (k + 6) j (by omega) (by omega) (by omega) (by omega) (by omega) (by omega)).trans (p38bbbfr (k + 6) j (by omega) (by omega) (by omega) (by omega) (by omega) (by omega) (by omega))) (fun w j hj => (p68bbbbfr (k + 9) j (by omega) (by omega) (by omega) (by omega) (by omega) (by omega)).trans (p38bbbfr (k + 9) j (by omega) (by omega) (by omega) (by omega) (by omega) (by omega) (by omega))) (fun w j hj => p38bbbbfrL (k + 4) j (by omega)))
             | (by_cases hz : tVz c n 0 ((tKd c (typ s + D) (tSk tSm c n (typ s + D))).toNat) (tSk tSm c n (typ s + D)) (tFv ((tKd c (typ s + D) (tSk tSm c n (typ s + D))).toNat) (tyx s)) = -1
                · first
                  | (have y3 := p93bhok hz
                     have y2 : v93o = (tVp c n 0 ((tKd c (typ s + D) (tSk tSm c n (typ s + D))).toNat) (tSk tSm c n (typ s + D)) (tFv ((tKd c (typ s + D) (tSk tSm c n (typ s + D))).toNat) (tyx s))) ∧ True := ⟨y3.1, trivial⟩
                     have e1 : v93o.toNat = (tVp c n 0 ((tKd c (typ s + D) (tSk tSm c n (typ s + D))).toNat) (tSk tSm c n (typ s + D)) (tFv ((tKd c (typ s + D) (tSk tSm c n (typ s + D))).toNat) (tyx s))) := by omega
                     rw [e1] at p101hv
                     first
                     | (exfalso
                        rw [tyB_vn (show (tKd c (typ s + D) (tSk tSm c n (typ s + D))) ≠ 9 by omega) hz (by omega)] at h9
                        exact tyF_f h9)
                     | (rw [tyB_v (show (tKd c (typ s + D) (tSk tSm c n (typ s + D))) ≠ 9 by omega) hz (fun _ => by omega)]
                        exact ⟨zVO_O (I1 := I93o) (L1 := L93o) hs hg (a_ := ((tKd c (typ s + D) (tSk tSm c n (typ s + D))).toNat)) (by omega) (by omega) hDx.2.1 zxe (zxs (by omega) (zxs (by omega) (zxu (by omega) (zxu (by omega) ((p93bbfr k 22 (by omega) (by omega) (by omega) (by omega) (by omega)).trans ((p38bbbfr k 22 (by omega) (by omega) (by omega) (by omega) (by omega) (by omega) (by omega)).trans s22)))))) ((zxs (by omega) (zxs (by omega) (zxu (by omega) (zxu (by omega) ((p93bbfr k 16 (by omega) (by omega) (by omega) (by omega) (by omega)).trans ((p38bbbfr k 16 (by omega) (by omega) (by omega) (by omega) (by omega) (by omega) (by omega)).trans (s16 (hn0_ w38.1 (by omega))))))))).trans (tXx_f (by omega)).symm)
                  ⟨zxu (by omega) (zxu (by omega) (zxu (by omega) (zxe' (by omega)))), zxu (by omega) (zxu (by omega) ((zxe' (by omega)).trans (by omega)))⟩ (fun e he => ⟨zxu (by omega) (zxu (by omega) (zxu (by omega) (zxs (by omega) ((p93bbfr (k + 10) e (by omega) (by omega) (by omega) (by omega) (by omega)).trans (p38bbbfr (k + 10) e (by omega) (by omega) (by omega) (by omega) (by omega) (by omega) (by omega)))))), zxu (by omega) (zxu (by omega) (zxs (by omega) (zxu (by omega) ((p93bbfr (k + 11) e (by omega) (by omega) (by omega) (by omega) (by omega)).trans (p38bbbfr (k + 11) e (by omega) (by omega) (by omega) (by omega) (by omega) (by omega) (by omega))))))⟩)
                  (fun w => ⟨(p93bbfr (k + 2) _ (by omega) (by omega) (by omega) (by omega) (by omega)).trans ((p38bbhst (by omega) w).1.trans w38.2.1), (p93bbfr (k + 3) _ (by omega) (by omega) (by omega) (by omega) (by omega)).trans (g38b (by omega) w)⟩) (fun w _ => y3.2 w) (fun w i h1 h2 => (p93bbbfrL (k + 4) _ (by omega) (by omega)).trans (((p38bbhst (by omega) w).2.2.2.2 i h2).trans (by rw [w38.2.1]))) (fun w i h1 h2 => (p93bbfr (k + 5) _ (by omega) (by omega) (by omega) (by omega) (by omega)).trans ((p38bbhst (by omega) w).2.2.2.1 i h2))
                  (fun x j h1 h2 => zxu (by omega) (zxu (by omega) (zxu (by omega) (zxu (by omega) rfl)))) (fun j => rfl)
                  (fun w x j hx hj => (p93bbfr x j (by omega) (by omega) (by omega) (by omega) (by omega)).trans (p38bbbfr x j (by omega) (by omega) (by omega) (by omega) (by omega) (by omega) (by omega))) (fun w j hj => (p93bbfr (k + 5) j (by omega) (by omega) (by omega) (by omega) (by omega)).trans (p38bbbfr (k + 5) j (by omega) (by omega) (by omega) (by omega) (by omega) (by omega) (by omega))) (fun w j hj => (p93bbfr (k + 6) j (by omega) (by omega) (by omega) (by omega) (by omega)).trans (p38bbbfr (k + 6) j (by omega) (by omega) (by omega) (by omega) (by omega) (by omega) (by omega))) (fun w j hj => (p93bbfr (k + 9) j (by omega) (by omega) (by omega) (by omega) (by omega)).trans (p38bbbfr (k + 9) j (by omega) (by omega) (by omega) (by omega) (by omega) (by omega) (by omega))) (fun w j hj => (p93bbbfrL (k + 4) j (by omega) (by omega)).trans (p38bbbbfrL (k + 4) j (by omega))), (by rw [y2.1]; show _ = (((tVp c n 0 ((tKd c (typ s + D) (tSk tSm c n (typ s + D))).toNat) (tSk tSm c n (typ s + D)) (tFv ((tKd c (typ s + D) (tSk tSm c n (typ s + D))).toNat) (tyx s))) + (1 - 0) : Nat) : Int); omega), zxs (by omega) (zxe.trans (show _ = ((D + 1 : Nat) : Int) - 1 by omega))⟩))
                  | (have y2 := g81bb hz
                     have e1 : v81o.toNat = (tVp c n 0 ((tKd c (typ s + D) (tSk tSm c n (typ s + D))).toNat) (tSk tSm c n (typ s + D)) (tFv ((tKd c (typ s + D) (tSk tSm c n (typ s + D))).toNat) (tyx s))) := by omega
                     rw [e1] at p101hv
                     first
                     | (exfalso
                        rw [tyB_vn (show (tKd c (typ s + D) (tSk tSm c n (typ s + D))) ≠ 9 by omega) hz (by omega)] at h9
                        exact tyF_f h9)
                     | (rw [tyB_v (show (tKd c (typ s + D) (tSk tSm c n (typ s + D))) ≠ 9 by omega) hz (fun _ => by omega)]
                        exact ⟨zVO_O (I1 := I81o) (L1 := L81o) hs hg (a_ := ((tKd c (typ s + D) (tSk tSm c n (typ s + D))).toNat)) (by omega) (by omega) hDx.2.1 zxe (zxs (by omega) (zxs (by omega) (zxu (by omega) (zxu (by omega) ((p81bfr k 22 (by omega) (by omega)).trans ((p38bbbfr k 22 (by omega) (by omega) (by omega) (by omega) (by omega) (by omega) (by omega)).trans s22)))))) (zxs (by omega) (zxs (by omega) (zxu (by omega) (zxu (by omega) y2.2))))
                  ⟨zxu (by omega) (zxu (by omega) (zxu (by omega) (zxe' (by omega)))), zxu (by omega) (zxu (by omega) ((zxe' (by omega)).trans (by omega)))⟩ (fun e he => ⟨zxu (by omega) (zxu (by omega) (zxu (by omega) (zxs (by omega) ((p81bfr (k + 10) e (by omega) (by omega)).trans (p38bbbfr (k + 10) e (by omega) (by omega) (by omega) (by omega) (by omega) (by omega) (by omega)))))), zxu (by omega) (zxu (by omega) (zxs (by omega) (zxu (by omega) ((p81bfr (k + 11) e (by omega) (by omega)).trans (p38bbbfr (k + 11) e (by omega) (by omega) (by omega) (by omega) (by omega) (by omega) (by omega))))))⟩)
                  (fun w => ⟨(p81bfr (k + 2) _ (by omega) (by omega)).trans ((p38bbhst (by omega) w).1.trans w38.2.1), (p81bfr (k + 3) _ (by omega) (by omega)).trans (g38b (by omega) w)⟩) (fun w h => absurd (by omega) h) (fun w i h1 h2 => (p81bbfrL (k + 4) _ (by omega)).trans (((p38bbhst (by omega) w).2.2.2.2 i h2).trans (by rw [w38.2.1]))) (fun w i h1 h2 => (p81bfr (k + 5) _ (by omega) (by omega)).trans ((p38bbhst (by omega) w).2.2.2.1 i h2))
                  (fun x j h1 h2 => zxu (by omega) (zxu (by omega) (zxu (by omega) (zxu (by omega) rfl)))) (fun j => rfl)
                  (fun w x j hx hj => (p81bfr x j (by omega) (by omega)).trans (p38bbbfr x j (by omega) (by omega) (by omega) (by omega) (by omega) (by omega) (by omega))) (fun w j hj => (p81bfr (k + 5) j (by omega) (by omega)).trans (p38bbbfr (k + 5) j (by omega) (by omega) (by omega) (by omega) (by omega) (by omega) (by omega))) (fun w j hj => (p81bfr (k + 6) j (by omega) (by omega)).trans (p38bbbfr (k + 6) j (by omega) (by omega) (by omega) (by omega) (by omega) (by omega) (by omega))) (fun w j hj => (p81bfr (k + 9) j (by omega) (by omega)).trans (p38bbbfr (k + 9) j (by omega) (by omega) (by omega) (by omega) (by omega) (by omega) (by omega))) (fun w j hj => (p81bbfrL (k + 4) j (by omega)).trans (p38bbbbfrL (k + 4) j (by omega))), (by rw [y2.1]; show _ = (((tVp c n 0 ((tKd c (typ s + D) (tSk tSm c n (typ s + D))).toNat) (tSk tSm c n (typ s + D)) (tFv ((tKd c (typ s + D) (tSk tSm c n (typ s + D))).toNat) (tyx s))) + (1 - 0) : Nat) : Int); omega), zxs (by omega) (zxe.trans (show _ = ((D + 1 : Nat) : Int) - 1 by omega))⟩))
                · exfalso
                  rw [tyB_vf hc em.2.1 (show (tKd c (typ s + D) (tSk tSm c n (typ s + D))) ≠ 9 by omega) hz] at h9
                  exact hz h9))
          | (exfalso; omega)
    · refine And.intro ⟨(by omega), (zRb rfl)⟩ ⟨(fun h46 => False.elim (by omega)), fun h46 => ?_⟩
      refine hQ _ _ _ ?_ ?_ (by omega) (fun c j h0 h1 h2 h3 h4 h5 h6 h7 h8 h9 h10 h11 h12 h13 h14 h15 => ((p38bbbfr c j h2 h3 h4 (fun w => h7 ⟨w.1, w.2.1⟩) (fun w => h8 ⟨w.1, w.2.1⟩) (fun w => h12 ⟨w.1, w.2.1⟩) (fun w => h9 ⟨w.1, w.2.1⟩)).trans rfl)) (fun c j h0 h1 => ((p38bbbbfrL c j (fun w => h1 ⟨w.1, w.2.1⟩)).trans rfl))
      · first
        | (rw [tyA_nb hDD hDx.2.2.1 w38.1]
           exact w38.2.2)
        | (rw [tyA_y hDD hD46 hDx.2.2.1 w38.1]
           have em := tSm_s hc w38.1.1
           first
           | (rw [tyB_9 (show (tKd c (typ s + D) (tSk tSm c n (typ s + D))) = 9 by omega), tkX_0]
              exact p68hf)
           | (by_cases hz : tVz c n 0 ((tKd c (typ s + D) (tSk tSm c n (typ s + D))).toNat) (tSk tSm c n (typ s + D)) (tFv ((tKd c (typ s + D) (tSk tSm c n (typ s + D))).toNat) (tyx s)) = -1
              · first
                | (have y2 := p93bhok hz
                   have e1 : v93o.toNat = (tVp c n 0 ((tKd c (typ s + D) (tSk tSm c n (typ s + D))).toNat) (tSk tSm c n (typ s + D)) (tFv ((tKd c (typ s + D) (tSk tSm c n (typ s + D))).toNat) (tyx s))) := by omega
                   rw [e1] at p101hv
                   first
                   | (rw [tyB_v (show (tKd c (typ s + D) (tSk tSm c n (typ s + D))) ≠ 9 by omega) hz (fun _ => by omega)]
                      exact zxs (by omega) (zxs (by omega) (zxu (by omega) (zxu (by omega) (p93hf.trans hz)))))
                   | (rw [tyB_vn (show (tKd c (typ s + D) (tSk tSm c n (typ s + D))) ≠ 9 by omega) hz (by omega)]
                      exact (zxs (by omega) (zxs (by omega) (zxu (by omega) (zxu (by omega) zxe)))).trans (show _ = (((tVp c n 0 ((tKd c (typ s + D) (tSk tSm c n (typ s + D))).toNat) (tSk tSm c n (typ s + D)) (tFv ((tKd c (typ s + D) (tSk tSm c n (typ s + D))).toNat) (tyx s))) : Nat) : Int) by omega)))
                | (have y2 := g81bb hz
                   have e1 : v81o.toNat = (tVp c n 0 ((tKd c (typ s + D) (tSk tSm c n (typ s + D))).toNat) (tSk tSm c n (typ s + D)) (tFv ((tKd c (typ s + D) (tSk tSm c n (typ s + D))).toNat) (tyx s))) := by omega
                   rw [e1] at p101hv
                   first
                   | (rw [tyB_v (show (tKd c (typ s + D) (tSk tSm c n (typ s + D))) ≠ 9 by omega) hz (fun _ => by omega)]
                      exact zxs (by omega) (zxs (by omega) (zxu (by omega) (zxu (by omega) (g81b.trans hz)))))
                   | (rw [tyB_vn (show (tKd c (typ s + D) (tSk tSm c n (typ s + D))) ≠ 9 by omega) hz (by omega)]
                      exact (zxs (by omega) (zxs (by omega) (zxu (by omega) (zxu (by omega) zxe)))).trans (show _ = (((tVp c n 0 ((tKd c (typ s + D) (tSk tSm c n (typ s + D))).toNat) (tSk tSm c n (typ s + D)) (tFv ((tKd c (typ s + D) (tSk tSm c n (typ s + D))).toNat) (tyx s))) : Nat) : Int) by omega)))
              · rw [tyB_vf hc em.2.1 (show (tKd c (typ s + D) (tSk tSm c n (typ s + D))) ≠ 9 by omega) hz]
                first
                | exact zxs (by omega) (zxs (by omega) (zxu (by omega) (zxu (by omega) p93hf)))
                | exact zxs (by omega) (zxs (by omega) (zxu (by omega) (zxu (by omega) g81b)))
                | (exfalso; omega)))
        | (exfalso; omega)
      · intro h9
        first
        | (exfalso
           rw [tyA_nb hDD hDx.2.2.1 w38.1] at h9
           exact tyF_f h9)
        | (rw [tyA_y hDD hD46 hDx.2.2.1 w38.1] at h9 ⊢
           have em := tSm_s hc w38.1.1
           first
           | (have hx : tlX c n (typ s + D + 2000 - tyk s) D (tSk tSm c n (typ s + D)) = -1 := by
                rw [tyB_9 (show (tKd c (typ s + D) (tSk tSm c n (typ s + D))) = 9 by omega), tkX_0] at h9
                exact h9
              have y2 := p68bhok hx
              have eb := tlX_b hc hx
              have e9 : v38o.toNat = 9 := by omega
              rw [tyB_u (show (tKd c (typ s + D) (tSk tSm c n (typ s + D))) = 9 by omega) (tkX_0.trans hx), tkE_0]
              refine ⟨?_, y2.1, (p68bbbbfr k 30 (by omega) (by omega) (by omega) (by omega) (by omega) (by omega)).trans ((p38bbbfr k 30 (by omega) (by omega) (by omega) (by omega) (by omega) (by omega) (by omega)).trans hls)⟩
              exact zVO_U hs hg (by omega) (hn0_ w38.1 (by omega)) p68bbhfd9 y2.2.1 ((p68bbbbfr k 16 (by omega) (by omega) (by omega) (by omega) (by omega) (by omega)).trans (p38bbbfr k 16 (by omega) (by omega) (by omega) (by omega) (by omega) (by omega) (by omega))) (fun e => ⟨(p68bbbbfr (k + 10) e (by omega) (by omega) (by omega) (by omega) (by omega) (by omega)).trans (p38bbbfr (k + 10) e (by omega) (by omega) (by omega) (by omega) (by omega) (by omega) (by omega)), (p68bbbbfr (k + 11) e (by omega) (by omega) (by omega) (by omega) (by omega) (by omega)).trans (p38bbbfr (k + 11) e (by omega) (by omega) (by omega) (by omega) (by omega) (by omega) (by omega))⟩)
                (fun w => ⟨(p68bbbbfr (k + 2) _ (by omega) (by omega) (by omega) (by omega) (by omega) (by omega)).trans ((p38bbhst (by omega) w).1.trans (by omega)), (p68bbbbfr (k + 3) _ (by omega) (by omega) (by omega) (by omega) (by omega) (by omega)).trans (g38b (by omega) w)⟩) y2.2.2 (fun w i hi => ((p38bbhst (by omega) w).2.2.2.2 i hi).trans (by rw [e9]))
                (fun w x j hx hj => (p68bbbbfr x j (by omega) (by omega) (by omega) (by omega) (by omega) (by omega)).trans (p38bbbfr x j (by omega) (by omega) (by omega) (by omega) (by omega) (by omega) (by omega))) (fun w j hj => (p68bbbbfr (k + 5) j (by omega) (by omega) (by omega) (by omega) (by omega) (by omega)).trans (p38bbbfr (k + 5) j (by omega) (by omega) (by omega) (by omega) (by omega) (by omega) (by omega))) (fun w j hj => (p68bbbbfr (k + 6) j (by omega) (by omega) (by omega) (by omega) (by omega) (by omega)).trans (p38bbbfr (k + 6) j (by omega) (by omega) (by omega) (by omega) (by omega) (by omega) (by omega))) (fun w j hj => (p68bbbbfr (k + 9) j (by omega) (by omega) (by omega) (by omega) (by omega) (by omega)).trans (p38bbbfr (k + 9) j (by omega) (by omega) (by omega) (by omega) (by omega) (by omega) (by omega))) (fun w j hj => p38bbbbfrL (k + 4) j (by omega)))
           | (by_cases hz : tVz c n 0 ((tKd c (typ s + D) (tSk tSm c n (typ s + D))).toNat) (tSk tSm c n (typ s + D)) (tFv ((tKd c (typ s + D) (tSk tSm c n (typ s + D))).toNat) (tyx s)) = -1
              · first
                | (have y3 := p93bhok hz
                   have y2 : v93o = (tVp c n 0 ((tKd c (typ s + D) (tSk tSm c n (typ s + D))).toNat) (tSk tSm c n (typ s + D)) (tFv ((tKd c (typ s + D) (tSk tSm c n (typ s + D))).toNat) (tyx s))) ∧ True := ⟨y3.1, trivial⟩
                   have e1 : v93o.toNat = (tVp c n 0 ((tKd c (typ s + D) (tSk tSm c n (typ s + D))).toNat) (tSk tSm c n (typ s + D)) (tFv ((tKd c (typ s + D) (tSk tSm c n (typ s + D))).toNat) (tyx s))) := by omega
                   rw [e1] at p101hv
                   first
                   | (exfalso
                      rw [tyB_vn (show (tKd c (typ s + D) (tSk tSm c n (typ s + D))) ≠ 9 by omega) hz (by omega)] at h9
                      exact tyF_f h9)
                   | (rw [tyB_v (show (tKd c (typ s + D) (tSk tSm c n (typ s + D))) ≠ 9 by omega) hz (fun _ => by omega)]
                      exact ⟨zVO_O (I1 := I93o) (L1 := L93o) hs hg (a_ := ((tKd c (typ s + D) (tSk tSm c n (typ s + D))).toNat)) (by omega) (by omega) hDx.2.1 zxe (zxs (by omega) (zxs (by omega) (zxu (by omega) (zxu (by omega) ((p93bbfr k 22 (by omega) (by omega) (by omega) (by omega) (by omega)).trans ((p38bbbfr k 22 (by omega) (by omega) (by omega) (by omega) (by omega) (by omega) (by omega)).trans s22)))))) ((zxs (by omega) (zxs (by omega) (zxu (by omega) (zxu (by omega) ((p93bbfr k 16 (by omega) (by omega) (by omega) (by omega) (by omega)).trans ((p38bbbfr k 16 (by omega) (by omega) (by omega) (by omega) (by omega) (by omega) (by omega)).trans (s16 (hn0_ w38.1 (by omega))))))))).trans (tXx_f (by omega)).symm)
                ⟨zxu (by omega) (zxu (by omega) (zxu (by omega) (zxe' (by omega)))), zxu (by omega) (zxu (by omega) ((zxe' (by omega)).trans (by omega)))⟩ (fun e he => ⟨zxu (by omega) (zxu (by omega) (zxu (by omega) (zxs (by omega) ((p93bbfr (k + 10) e (by omega) (by omega) (by omega) (by omega) (by omega)).trans (p38bbbfr (k + 10) e (by omega) (by omega) (by omega) (by omega) (by omega) (by omega) (by omega)))))), zxu (by omega) (zxu (by omega) (zxs (by omega) (zxu (by omega) ((p93bbfr (k + 11) e (by omega) (by omega) (by omega) (by omega) (by omega)).trans (p38bbbfr (k + 11) e (by omega) (by omega) (by omega) (by omega) (by omega) (by omega) (by omega))))))⟩)
                (fun w => ⟨(p93bbfr (k + 2) _ (by omega) (by omega) (by omega) (by omega) (by omega)).trans ((p38bbhst (by omega) w).1.trans w38.2.1), (p93bbfr (k + 3) _ (by omega) (by omega) (by omega) (by omega) (by omega)).trans (g38b (by omega) w)⟩) (fun w _ => y3.2 w) (fun w i h1 h2 => (p93bbbfrL (k + 4) _ (by omega) (by omega)).trans (((p38bbhst (by omega) w).2.2.2.2 i h2).trans (by rw [w38.2.1]))) (fun w i h1 h2 => (p93bbfr (k + 5) _ (by omega) (by omega) (by omega) (by omega) (by omega)).trans ((p38bbhst (by omega) w).2.2.2.1 i h2))
                (fun x j h1 h2 => zxu (by omega) (zxu (by omega) (zxu (by omega) (zxu (by omega) rfl)))) (fun j => rfl)
                (fun w x j hx hj => (p93bbfr x j (by omega) (by omega) (by omega) (by omega) (by omega)).trans (p38bbbfr x j (by omega) (by omega) (by omega) (by omega) (by omega) (by omega) (by omega))) (fun w j hj => (p93bbfr (k + 5) j (by omega) (by omega) (by omega) (by omega) (by omega)).trans (p38bbbfr (k + 5) j (by omega) (by omega) (by omega) (by omega) (by omega) (by omega) (by omega))) (fun w j hj => (p93bbfr (k + 6) j (by omega) (by omega) (by omega) (by omega) (by omega)).trans (p38bbbfr (k + 6) j (by omega) (by omega) (by omega) (by omega) (by omega) (by omega) (by omega))) (fun w j hj => (p93bbfr (k + 9) j (by omega) (by omega) (by omega) (by omega) (by omega)).trans (p38bbbfr (k + 9) j (by omega) (by omega) (by omega) (by omega) (by omega) (by omega) (by omega))) (fun w j hj => (p93bbbfrL (k + 4) j (by omega) (by omega)).trans (p38bbbbfrL (k + 4) j (by omega))), (by rw [y2.1]; show _ = (((tVp c n 0 ((tKd c (typ s + D) (tSk tSm c n (typ s + D))).toNat) (tSk tSm c n (typ s + D)) (tFv ((tKd c (typ s + D) (tSk tSm c n (typ s + D))).toNat) (tyx s))) + (1 - 0) : Nat) : Int); omega), zxs (by omega) (zxe.trans (show _ = ((D + 1 : Nat) : Int) - 1 by omega))⟩))
                | (have y2 := g81bb hz
                   have e1 : v81o.toNat = (tVp c n 0 ((tKd c (typ s + D) (tSk tSm c n (typ s + D))).toNat) (tSk tSm c n (typ s + D)) (tFv ((tKd c (typ s + D) (tSk tSm c n (typ s + D))).toNat) (tyx s))) := by omega
                   rw [e1] at p101hv
                   first
                   | (exfalso
                      rw [tyB_vn (show (tKd c (typ s + D) (tSk tSm c n (typ s + D))) ≠ 9 by omega) hz (by omega)] at h9
                      exact tyF_f h9)
                   | (rw [tyB_v (show (tKd c (typ s + D) (tSk tSm c n (typ s + D))) ≠ 9 by omega) hz (fun _ => by omega)]
                      exact ⟨zVO_O (I1 := I81o) (L1 := L81o) hs hg (a_ := ((tKd c (typ s + D) (tSk tSm c n (typ s + D))).toNat)) (by omega) (by omega) hDx.2.1 zxe (zxs (by omega) (zxs (by omega) (zxu (by omega) (zxu (by omega) ((p81bfr k 22 (by omega) (by omega)).trans ((p38bbbfr k 22 (by omega) (by omega) (by omega) (by omega) (by omega) (by omega) (by omega)).trans s22)))))) (zxs (by omega) (zxs (by omega) (zxu (by omega) (zxu (by omega) y2.2))))
                ⟨zxu (by omega) (zxu (by omega) (zxu (by omega) (zxe' (by omega)))), zxu (by omega) (zxu (by omega) ((zxe' (by omega)).trans (by omega)))⟩ (fun e he => ⟨zxu (by omega) (zxu (by omega) (zxu (by omega) (zxs (by omega) ((p81bfr (k + 10) e (by omega) (by omega)).trans (p38bbbfr (k + 10) e (by omega) (by omega) (by omega) (by omega) (by omega) (by omega) (by omega)))))), zxu (by omega) (zxu (by omega) (zxs (by omega) (zxu (by omega) ((p81bfr (k + 11) e (by omega) (by omega)).trans (p38bbbfr (k + 11) e (by omega) (by omega) (by omega) (by omega) (by omega) (by omega) (by omega))))))⟩)
                (fun w => ⟨(p81bfr (k + 2) _ (by omega) (by omega)).trans ((p38bbhst (by omega) w).1.trans w38.2.1), (p81bfr (k + 3) _ (by omega) (by omega)).trans (g38b (by omega) w)⟩) (fun w h => absurd (by omega) h) (fun w i h1 h2 => (p81bbfrL (k + 4) _ (by omega)).trans (((p38bbhst (by omega) w).2.2.2.2 i h2).trans (by rw [w38.2.1]))) (fun w i h1 h2 => (p81bfr (k + 5) _ (by omega) (by omega)).trans ((p38bbhst (by omega) w).2.2.2.1 i h2))
                (fun x j h1 h2 => zxu (by omega) (zxu (by omega) (zxu (by omega) (zxu (by omega) rfl)))) (fun j => rfl)
                (fun w x j hx hj => (p81bfr x j (by omega) (by omega)).trans (p38bbbfr x j (by omega) (by omega) (by omega) (by omega) (by omega) (by omega) (by omega))) (fun w j hj => (p81bfr (k + 5) j (by omega) (by omega)).trans (p38bbbfr (k + 5) j (by omega) (by omega) (by omega) (by omega) (by omega) (by omega) (by omega))) (fun w j hj => (p81bfr (k + 6) j (by omega) (by omega)).trans (p38bbbfr (k + 6) j (by omega) (by omega) (by omega) (by omega) (by omega) (by omega) (by omega))) (fun w j hj => (p81bfr (k + 9) j (by omega) (by omega)).trans (p38bbbfr (k + 9) j (by omega) (by omega) (by omega) (by omega) (by omega) (by omega) (by omega))) (fun w j hj => (p81bbfrL (k + 4) j (by omega)).trans (p38bbbbfrL (k + 4) j (by omega))), (by rw [y2.1]; show _ = (((tVp c n 0 ((tKd c (typ s + D) (tSk tSm c n (typ s + D))).toNat) (tSk tSm c n (typ s + D)) (tFv ((tKd c (typ s + D) (tSk tSm c n (typ s + D))).toNat) (tyx s))) + (1 - 0) : Nat) : Int); omega), zxs (by omega) (zxe.trans (show _ = ((D + 1 : Nat) : Int) - 1 by omega))⟩))
              · exfalso
                rw [tyB_vf hc em.2.1 (show (tKd c (typ s + D) (tSk tSm c n (typ s + D))) ≠ 9 by omega) hz] at h9
                exact hz h9))
        | (exfalso; omega)
  · refine And.intro (by omega) ⟨(fun h23 => False.elim (by omega)), fun h23 => ?_⟩
    refine And.intro (zDX hD 0 rfl) ⟨_, sn_V_beg.up (by decide), ?_⟩
    refine ⟨_, _, _, ((p + d) : Int), (typ s + D), ((-1) : Int), ((-1) : Int), mk, (tyn s), rfl, hD, (by first | exact (zRM_fr hX (fun c j h => rfl)) | (clear hQ; grind [xu])), (by first | exact hc | (clear hQ; grind [xu])), (by omega), (by omega), (by omega), hmk, (by omega), s17, (by omega), (Eq.trans (b := ((-1) : Int)) hf0 (by omega)), ?_⟩
    intro v38o I38o L38o p38hg p38bhv p38bbhst p38bbbfr p38bbbbfrL
    have g38 : (tBg c n (typ s + D) (tyz s D) (tyn s) ∧ v38o = (tKd c (typ s + D) (tSk tSm c n (typ s + D))) ∧ I38o k 18 = -1 ∧ I38o k 20 = 0 ∧ I38o k 21 = 0) ∨ (¬ tBg c n (typ s + D) (tyz s D) (tyn s) ∧ v38o = -1 ∧ I38o k 18 = (typ s + D)) := (by first | (rw [show tyz s D = v21 by have z := tzp (by omega); omega]; exact p38hg) | (rw [(yz0 (by omega)).1]; exact p38hg))
    have g38b : 0 ≤ v38o → mk = 1 → I38o (k + 3) (tyn s) = tyy s D := (fun e1 e2 => by have z := (p38bbhst e1 e2).2.1; first | (rw [show tyy s D = v37 by have z := tzp (by omega); omega]; exact z) | (rw [(yz0 (by omega)).2]; exact z))
    rcases g38 with w38 | w38
    · refine And.intro ⟨(by omega), (zRb rfl)⟩ ⟨fun h46 => ?_, fun h46 => ?_⟩
      · have t46 : tyn s ≤ 199 ∧ (tSk tSm c n (typ s + D)) ≤ n ∧ (typ s + D) < (tSk tSm c n (typ s + D)) := (by have z := tSm_s hc w38.1.1; have z2 := w38.1.2.2; exact ⟨by omega, z.2.1, z.1⟩)
        refine And.intro (zDX hD 0 rfl) ⟨_, sn_V_nme.up (by decide), ?_⟩
        refine ⟨_, _, _, ((p + d) : Int), (typ s + D), rfl, hD, (by first | exact (zRM_fr hX (fun c j h => ((p38bbbfr c j (by omega) (by omega) (by omega) (by omega) (by omega) (by omega) (by omega)).trans rfl))) | (clear hQ; grind [xu])), (by first | exact hc | (clear hQ; grind [xu])), (by omega), ?_⟩
        intro v53o p53hv
        refine And.intro ⟨(by omega), (zRb rfl)⟩ ⟨fun h62 => ?_, fun h62 => ?_⟩
        · refine And.intro (by omega) ⟨fun h74 => ?_, fun h74 => ?_⟩
          · refine And.intro (zDX hD 0 rfl) ⟨_, sn_V_vals2.up (by decide), ?_⟩
            refine ⟨_, _, _, (v38o : Int), ((tKd c (typ s + D) (tSk tSm c n (typ s + D))).toNat), (v53o : Int), (tSk tSm c n (typ s + D)), (0 : Int), 0, mk, (tyn s), (tyx s), rfl, hD, (by first | exact (zRM_fr hX (fun c j h => ((p38bbbfr c j (by omega) (by omega) (by omega) (by omega) (by omega) (by omega) (by omega)).trans rfl))) | (clear hQ; grind [xu])), (by first | exact hc | (clear hQ; grind [xu])), (by omega), ⟨by omega, by omega⟩, (by omega), ((p38bbbfr k 16 (by omega) (by omega) (by omega) (by omega) (by omega) (by omega) (by omega)).trans (s16 (hn0_ w38.1 (by omega)))), (by omega), ((p38bbbfr k 15 (by omega) (by omega) (by omega) (by omega) (by omega) (by omega) (by omega)).trans hmk), (by omega), ((p38bbbfr k 17 (by omega) (by omega) (by omega) (by omega) (by omega) (by omega) (by omega)).trans s17), (by omega), w38.2.2.2.2, w38.2.2.2.1, (Eq.trans (b := ((-1) : Int)) w38.2.2.1 (by omega)), ?_⟩
            intro v93o I93o L93o p93hf p93bhok p93bbfr p93bbbfrL p93bbbbhvb9
            have g93 : -1 ≤ tVz c n 0 ((tKd c (typ s + D) (tSk tSm c n (typ s + D))).toNat) (tSk tSm c n (typ s + D)) (tFv ((tKd c (typ s + D) (tSk tSm c n (typ s + D))).toNat) (tyx s)) ∧ tVz c n 0 ((tKd c (typ s + D) (tSk tSm c n (typ s + D))).toNat) (tSk tSm c n (typ s + D)) (tFv ((tKd c (typ s + D) (tSk tSm c n (typ s + D))).toNat) (tyx s)) ≤ 9000 := ⟨tVz_ge hc (tSm_s hc w38.1.1).2.1, tVz_le hc (tSm_s hc w38.1.1).2.1⟩
            refine And.intro (zDX hD 0 rfl) ⟨_, sn_V_c.up (by decide), ?_⟩
            refine ⟨_, _, _, (v93o : Int), (v93o).toNat, rfl, hD, (by first | exact (zRM_fr hX (fun c j h => ((p93bbfr c j (by omega) (by omega) (by omega) (by omega) (by omega)).trans ((p38bbbfr c j (by omega) (by omega) (by omega) (by omega) (by omega) (by omega) (by omega)).trans rfl)))) | (clear hQ; grind [xu])), (by first | exact hc | (clear hQ; grind [xu])), (by omega), ?_⟩
            intro v101o p101hv p101bhv2
            refine And.intro ⟨(by omega), (zRb rfl)⟩ ⟨fun h106 => ?_, fun h106 => ?_⟩
            · refine And.intro (zDX hD 0 rfl) (zrdR (v := some (k + 10)) (zDR hD 9 rfl) ?_)
              refine And.intro (zDX hD 0 rfl) (zrd (v := (tyn s)) ((p93bbfr k 17 (by omega) (by omega) (by omega) (by omega) (by omega)).trans ((p38bbbfr k 17 (by omega) (by omega) (by omega) (by omega) (by omega) (by omega) (by omega)).trans s17)) ?_)
              refine And.intro ⟨(by show 40 ≤ _; omega), (zDP hD 10 rfl rfl (by omega) (by omega))⟩ ⟨_, (zWi (by omega)), ?_⟩
              refine And.intro (zDX hD 0 rfl) (zrdR (v := some (k + 11)) (zDR hD 10 rfl) ?_)
              refine And.intro ⟨(by show 40 ≤ _; omega), (zDP hD 11 rfl rfl (by omega) (by omega))⟩ ⟨_, (zWi (by omega)), ?_⟩
              refine And.intro (zDX hD 0 rfl) ⟨_, (zWi (by omega)), ?_⟩
              refine And.intro (zDX hD 0 rfl) (zrd (v := (tyn s)) (zxs (by decide) (zxu (by omega) (zxu (by omega) ((p93bbfr k 17 (by omega) (by omega) (by omega) (by omega) (by omega)).trans ((p38bbbfr k 17 (by omega) (by omega) (by omega) (by omega) (by omega) (by omega) (by omega)).trans s17))))) ?_)
              refine And.intro (zDX hD 0 rfl) ⟨_, (zWi (by omega)), ?_⟩
              refine hQ _ _ _ ?_ ?_ (by omega) (fun c j h0 h1 h2 h3 h4 h5 h6 h7 h8 h9 h10 h11 h12 h13 h14 h15 => (zxcj h1 (zxcj h6 (zxu h15 (zxu h14 ((p93bbfr c j h2 h3 h4 (fun w => h9 ⟨w.1, w.2.1⟩) (fun w => h10 ⟨w.1, w.2.1⟩)).trans ((p38bbbfr c j h2 h3 h4 (fun w => h7 ⟨w.1, w.2.1⟩) (fun w => h8 ⟨w.1, w.2.1⟩) (fun w => h12 ⟨w.1, w.2.1⟩) (fun w => h9 ⟨w.1, w.2.1⟩)).trans rfl))))))) (fun c j h0 h1 => ((p93bbbfrL c j h0 (fun w => h1 ⟨w.1, w.2.1⟩)).trans ((p38bbbbfrL c j (fun w => h1 ⟨w.1, w.2.1⟩)).trans rfl)))
              · first
                | (rw [tyA_nb hDD hDx.2.2.1 w38.1]
                   exact w38.2.2)
                | (rw [tyA_y hDD hD46 hDx.2.2.1 w38.1]
                   have em := tSm_s hc w38.1.1
                   first
                   | (rw [tyB_9 (show (tKd c (typ s + D) (tSk tSm c n (typ s + D))) = 9 by omega), tkX_0]
                      exact p68hf)
                   | (by_cases hz : tVz c n 0 ((tKd c (typ s + D) (tSk tSm c n (typ s + D))).toNat) (tSk tSm c n (typ s + D)) (tFv ((tKd c (typ s + D) (tSk tSm c n (typ s + D))).toNat) (tyx s)) = -1
                      · first
                        | (have y2 := p93bhok hz
                           have e1 : v93o.toNat = (tVp c n 0 ((tKd c (typ s + D) (tSk tSm c n (typ s + D))).toNat) (tSk tSm c n (typ s + D)) (tFv ((tKd c (typ s + D) (tSk tSm c n (typ s + D))).toNat) (tyx s))) := by omega
                           rw [e1] at p101hv
                           first
                           | (rw [tyB_v (show (tKd c (typ s + D) (tSk tSm c n (typ s + D))) ≠ 9 by omega) hz (fun _ => by omega)]
                              exact zxs (by omega) (zxs (by omega) (zxu (by omega) (zxu (by omega) (p93hf.trans hz)))))
                           | (rw [tyB_vn (show (tKd c (typ s + D) (tSk tSm c n (typ s + D))) ≠ 9 by omega) hz (by omega)]
                              exact (zxs (by omega) (zxs (by omega) (zxu (by omega) (zxu (by omega) zxe)))).trans (show _ = (((tVp c n 0 ((tKd c (typ s + D) (tSk tSm c n (typ s + D))).toNat) (tSk tSm c n (typ s + D)) (tFv ((tKd c (typ s + D) (tSk tSm c n (typ s + D))).toNat) (tyx s))) : Nat) : Int) by omega)))
                        | (have y2 := g81bb hz
                           have e1 : v81o.toNat = (tVp c n 0 ((tKd c (typ s + D) (tSk tSm c n (typ s + D))).toNat) (tSk tSm c n (typ s + D)) (tFv ((tKd c (typ s + D) (tSk tSm c n (typ s + D))).toNat) (tyx s))) := by omega
                           rw [e1] at p101hv
                           first
                           | (rw [tyB_v (show (tKd c (typ s + D) (tSk tSm c n (typ s + D))) ≠ 9 by omega) hz (fun _ => by omega)]
                              exact zxs (by omega) (zxs (by omega) (zxu (by omega) (zxu (by omega) (g81b.trans hz)))))
                           | (rw [tyB_vn (show (tKd c (typ s + D) (tSk tSm c n (typ s + D))) ≠ 9 by omega) hz (by omega)]
                              exact (zxs (by omega) (zxs (by omega) (zxu (by omega) (zxu (by omega) zxe)))).trans (show _ = (((tVp c n 0 ((tKd c (typ s + D) (tSk tSm c n (typ s + D))).toNat) (tSk tSm c n (typ s + D)) (tFv ((tKd c (typ s + D) (tSk tSm c n (typ s + D))).toNat) (tyx s))) : Nat) : Int) by omega)))
                      · rw [tyB_vf hc em.2.1 (show (tKd c (typ s + D) (tSk tSm c n (typ s + D))) ≠ 9 by omega) hz]
                        first
                        | exact zxs (by omega) (zxs (by omega) (zxu (by omega) (zxu (by omega) p93hf)))
                        | exact zxs (by omega) (zxs (by omega) (zxu (by omega) (zxu (by omega) g81b)))
                        | (exfalso; omega)))
                | (exfalso; omega)
              · intro h9
                first
                | (exfalso
                   rw [tyA_nb hDD hDx.2.2.1 w38.1] at h9
                   exact tyF_f h9)
                | (rw [tyA_y hDD hD46 hDx.2.2.1 w38.1] at h9 ⊢
                   have em := tSm_s hc w38.1.1
                   first
                   | (have hx : tlX c n (typ s + D + 2000 - tyk s) D (tSk tSm c n (typ s + D)) = -1 := by
                        rw [tyB_9 (show (tKd c (typ s + D) (tSk tSm c n (typ s + D))) = 9 by omega), tkX_0] at h9
                        exact h9
                      have y2 := p68bhok hx
                      have eb := tlX_b hc hx
                      have e9 : v38o.toNat = 9 := by omega
                      rw [tyB_u (show (tKd c (typ s + D) (tSk tSm c n (typ s + D))) = 9 by omega) (tkX_0.trans hx), tkE_0]
                      refine ⟨?_, y2.1, (p68bbbbfr k 30 (by omega) (by omega) (by omega) (by omega) (by omega) (by omega)).trans ((p38bbbfr k 30 (by omega) (by omega) (by omega) (by omega) (by omega) (by omega) (by omega)).trans hls)⟩
                      exact zVO_U hs hg (by omega) (hn0_ w38.1 (by omega)) p68bbhfd9 y2.2.1 ((p68bbbbfr k 16 (by omega) (by omega) (by omega) (by omega) (by omega) (by omega)).trans (p38bbbfr k 16 (by omega) (by omega) (by omega) (by omega) (by omega) (by omega) (by omega))) (fun e => ⟨(p68bbbbfr (k + 10) e (by omega) (by omega) (by omega) (by omega) (by omega) (by omega)).trans (p38bbbfr (k + 10) e (by omega) (by omega) (by omega) (by omega) (by omega) (by omega) (by omega)), (p68bbbbfr (k + 11) e (by omega) (by omega) (by omega) (by omega) (by omega) (by omega)).trans (p38bbbfr (k + 11) e (by omega) (by omega) (by omega) (by omega) (by omega) (by omega) (by omega))⟩)
                        (fun w => ⟨(p68bbbbfr (k + 2) _ (by omega) (by omega) (by omega) (by omega) (by omega) (by omega)).trans ((p38bbhst (by omega) w).1.trans (by omega)), (p68bbbbfr (k + 3) _ (by omega) (by omega) (by omega) (by omega) (by omega) (by omega)).trans (g38b (by omega) w)⟩) y2.2.2 (fun w i hi => ((p38bbhst (by omega) w).2.2.2.2 i hi).trans (by rw [e9]))
                        (fun w x j hx hj => (p68bbbbfr x j (by omega) (by omega) (by omega) (by omega) (by omega) (by omega)).trans (p38bbbfr x j (by omega) (by omega) (by omega) (by omega) (by omega) (by omega) (by omega))) (fun w j hj => (p68bbbbfr (k + 5) j (by omega) (by omega) (by omega) (by omega) (by omega) (by omega)).trans (p38bbbfr (k + 5) j (by omega) (by omega) (by omega) (by omega) (by omega) (by omega) (by omega))) (fun w j hj => (p68bbbbfr (k + 6) j (by omega) (by omega) (by omega) (by omega) (by omega) (by omega)).trans (p38bbbfr (k + 6) j (by omega) (by omega) (by omega) (by omega) (by omega) (by omega) (by omega))) (fun w j hj => (p68bbbbfr (k + 9) j (by omega) (by omega) (by omega) (by omega) (by omega) (by omega)).trans (p38bbbfr (k + 9) j (by omega) (by omega) (by omega) (by omega) (by omega) (by omega) (by omega))) (fun w j hj => p38bbbbfrL (k + 4) j (by omega)))
                   | (by_cases hz : tVz c n 0 ((tKd c (typ s + D) (tSk tSm c n (typ s + D))).toNat) (tSk tSm c n (typ s + D)) (tFv ((tKd c (typ s + D) (tSk tSm c n (typ s + D))).toNat) (tyx s)) = -1
                      · first
                        | (have y3 := p93bhok hz
                           have y2 : v93o = (tVp c n 0 ((tKd c (typ s + D) (tSk tSm c n (typ s + D))).toNat) (tSk tSm c n (typ s + D)) (tFv ((tKd c (typ s + D) (tSk tSm c n (typ s + D))).toNat) (tyx s))) ∧ True := ⟨y3.1, trivial⟩
                           have e1 : v93o.toNat = (tVp c n 0 ((tKd c (typ s + D) (tSk tSm c n (typ s + D))).toNat) (tSk tSm c n (typ s + D)) (tFv ((tKd c (typ s + D) (tSk tSm c n (typ s + D))).toNat) (tyx s))) := by omega
                           rw [e1] at p101hv
                           first
                           | (exfalso
                              rw [tyB_vn (show (tKd c (typ s + D) (tSk tSm c n (typ s + D))) ≠ 9 by omega) hz (by omega)] at h9
                              exact tyF_f h9)
                           | (rw [tyB_v (show (tKd c (typ s + D) (tSk tSm c n (typ s + D))) ≠ 9 by omega) hz (fun _ => by omega)]
                              exact ⟨zVO_O (I1 := I93o) (L1 := L93o) hs hg (a_ := ((tKd c (typ s + D) (tSk tSm c n (typ s + D))).toNat)) (by omega) (by omega) hDx.2.1 zxe (zxs (by omega) (zxs (by omega) (zxu (by omega) (zxu (by omega) ((p93bbfr k 22 (by omega) (by omega) (by omega) (by omega) (by omega)).trans ((p38bbbfr k 22 (by omega) (by omega) (by omega) (by omega) (by omega) (by omega) (by omega)).trans s22)))))) ((zxs (by omega) (zxs (by omega) (zxu (by omega) (zxu (by omega) ((p93bbfr k 16 (by omega) (by omega) (by omega) (by omega) (by omega)).trans ((p38bbbfr k 16 (by omega) (by omega) (by omega) (by omega) (by omega) (by omega) (by omega)).trans (s16 (hn0_ w38.1 (by omega))))))))).trans (tXx_f (by omega)).symm)
                        ⟨zxu (by omega) (zxu (by omega) (zxu (by omega) (zxe' (by omega)))), zxu (by omega) (zxu (by omega) ((zxe' (by omega)).trans (by omega)))⟩ (fun e he => ⟨zxu (by omega) (zxu (by omega) (zxu (by omega) (zxs (by omega) ((p93bbfr (k + 10) e (by omega) (by omega) (by omega) (by omega) (by omega)).trans (p38bbbfr (k + 10) e (by omega) (by omega) (by omega) (by omega) (by omega) (by omega) (by omega)))))), zxu (by omega) (zxu (by omega) (zxs (by omega) (zxu (by omega) ((p93bbfr (k + 11) e (by omega) (by omega) (by omega) (by omega) (by omega)).trans (p38bbbfr (k + 11) e (by omega) (by omega) (by omega) (by omega) (by omega) (by omega) (by omega))))))⟩)
                        (fun w => ⟨(p93bbfr (k + 2) _ (by omega) (by omega) (by omega) (by omega) (by omega)).trans ((p38bbhst (by omega) w).1.trans w38.2.1), (p93bbfr (k + 3) _ (by omega) (by omega) (by omega) (by omega) (by omega)).trans (g38b (by omega) w)⟩) (fun w _ => y3.2 w) (fun w i h1 h2 => (p93bbbfrL (k + 4) _ (by omega) (by omega)).trans (((p38bbhst (by omega) w).2.2.2.2 i h2).trans (by rw [w38.2.1]))) (fun w i h1 h2 => (p93bbfr (k + 5) _ (by omega) (by omega) (by omega) (by omega) (by omega)).trans ((p38bbhst (by omega) w).2.2.2.1 i h2))
                        (fun x j h1 h2 => zxu (by omega) (zxu (by omega) (zxu (by omega) (zxu (by omega) rfl)))) (fun j => rfl)
                        (fun w x j hx hj => (p93bbfr x j (by omega) (by omega) (by omega) (by omega) (by omega)).trans (p38bbbfr x j (by omega) (by omega) (by omega) (by omega) (by omega) (by omega) (by omega))) (fun w j hj => (p93bbfr (k + 5) j (by omega) (by omega) (by omega) (by omega) (by omega)).trans (p38bbbfr (k + 5) j (by omega) (by omega) (by omega) (by omega) (by omega) (by omega) (by omega))) (fun w j hj => (p93bbfr (k + 6) j (by omega) (by omega) (by omega) (by omega) (by omega)).trans (p38bbbfr (k + 6) j (by omega) (by omega) (by omega) (by omega) (by omega) (by omega) (by omega))) (fun w j hj => (p93bbfr (k + 9) j (by omega) (by omega) (by omega) (by omega) (by omega)).trans (p38bbbfr (k + 9) j (by omega) (by omega) (by omega) (by omega) (by omega) (by omega) (by omega))) (fun w j hj => (p93bbbfrL (k + 4) j (by omega) (by omega)).trans (p38bbbbfrL (k + 4) j (by omega))), (by rw [y2.1]; show _ = (((tVp c n 0 ((tKd c (typ s + D) (tSk tSm c n (typ s + D))).toNat) (tSk tSm c n (typ s + D)) (tFv ((tKd c (typ s + D) (tSk tSm c n (typ s + D))).toNat) (tyx s))) + (1 - 0) : Nat) : Int); omega), zxs (by omega) (zxe.trans (show _ = ((D + 1 : Nat) : Int) - 1 by omega))⟩))
                        | (have y2 := g81bb hz
                           have e1 : v81o.toNat = (tVp c n 0 ((tKd c (typ s + D) (tSk tSm c n (typ s + D))).toNat) (tSk tSm c n (typ s + D)) (tFv ((tKd c (typ s + D) (tSk tSm c n (typ s + D))).toNat) (tyx s))) := by omega
                           rw [e1] at p101hv
                           first
                           | (exfalso
                              rw [tyB_vn (show (tKd c (typ s + D) (tSk tSm c n (typ s + D))) ≠ 9 by omega) hz (by omega)] at h9
                              exact tyF_f h9)
                           | (rw [tyB_v (show (tKd c (typ s + D) (tSk tSm c n (typ s + D))) ≠ 9 by omega) hz (fun _ => by omega)]
                              exact ⟨zVO_O (I1 := I81o) (L1 := L81o) hs hg (a_ := ((tKd c (typ s + D) (tSk tSm c n (typ s + D))).toNat)) (by omega) (by omega) hDx.2.1 zxe (zxs (by omega) (zxs (by omega) (zxu (by omega) (zxu (by omega) ((p81bfr k 22 (by omega) (by omega)).trans ((p38bbbfr k 22 (by omega) (by omega) (by omega) (by omega) (by omega) (by omega) (by omega)).trans s22)))))) (zxs (by omega) (zxs (by omega) (zxu (by omega) (zxu (by omega) y2.2))))
                        ⟨zxu (by omega) (zxu (by omega) (zxu (by omega) (zxe' (by omega)))), zxu (by omega) (zxu (by omega) ((zxe' (by omega)).trans (by omega)))⟩ (fun e he => ⟨zxu (by omega) (zxu (by omega) (zxu (by omega) (zxs (by omega) ((p81bfr (k + 10) e (by omega) (by omega)).trans (p38bbbfr (k + 10) e (by omega) (by omega) (by omega) (by omega) (by omega) (by omega) (by omega)))))), zxu (by omega) (zxu (by omega) (zxs (by omega) (zxu (by omega) ((p81bfr (k + 11) e (by omega) (by omega)).trans (p38bbbfr (k + 11) e (by omega) (by omega) (by omega) (by omega) (by omega) (by omega) (by omega))))))⟩)
                        (fun w => ⟨(p81bfr (k + 2) _ (by omega) (by omega)).trans ((p38bbhst (by omega) w).1.trans w38.2.1), (p81bfr (k + 3) _ (by omega) (by omega)).trans (g38b (by omega) w)⟩) (fun w h => absurd (by omega) h) (fun w i h1 h2 => (p81bbfrL (k + 4) _ (by omega)).trans (((p38bbhst (by omega) w).2.2.2.2 i h2).trans (by rw [w38.2.1]))) (fun w i h1 h2 => (p81bfr (k + 5) _ (by omega) (by omega)).trans ((p38bbhst (by omega) w).2.2.2.1 i h2))
                        (fun x j h1 h2 => zxu (by omega) (zxu (by omega) (zxu (by omega) (zxu (by omega) rfl)))) (fun j => rfl)
                        (fun w x j hx hj => (p81bfr x j (by omega) (by omega)).trans (p38bbbfr x j (by omega) (by omega) (by omega) (by omega) (by omega) (by omega) (by omega))) (fun w j hj => (p81bfr (k + 5) j (by omega) (by omega)).trans (p38bbbfr (k + 5) j (by omega) (by omega) (by omega) (by omega) (by omega) (by omega) (by omega))) (fun w j hj => (p81bfr (k + 6) j (by omega) (by omega)).trans (p38bbbfr (k + 6) j (by omega) (by omega) (by omega) (by omega) (by omega) (by omega) (by omega))) (fun w j hj => (p81bfr (k + 9) j (by omega) (by omega)).trans (p38bbbfr (k + 9) j (by omega) (by omega) (by omega) (by omega) (by omega) (by omega) (by omega))) (fun w j hj => (p81bbfrL (k + 4) j (by omega)).trans (p38bbbbfrL (k + 4) j (by omega))), (by rw [y2.1]; show _ = (((tVp c n 0 ((tKd c (typ s + D) (tSk tSm c n (typ s + D))).toNat) (tSk tSm c n (typ s + D)) (tFv ((tKd c (typ s + D) (tSk tSm c n (typ s + D))).toNat) (tyx s))) + (1 - 0) : Nat) : Int); omega), zxs (by omega) (zxe.trans (show _ = ((D + 1 : Nat) : Int) - 1 by omega))⟩))
                      · exfalso
                        rw [tyB_vf hc em.2.1 (show (tKd c (typ s + D) (tSk tSm c n (typ s + D))) ≠ 9 by omega) hz] at h9
                        exact hz h9))
                | (exfalso; omega)
            · refine And.intro (zDX hD 0 rfl) (Exists.intro _ (And.intro (zinl_ok (zT20_9 4)) (And.intro rfl ?_)))
              refine And.intro (zDX hD 0 rfl) (zrd (v := (tVz c n 0 ((tKd c (typ s + D) (tSk tSm c n (typ s + D))).toNat) (tSk tSm c n (typ s + D)) (tFv ((tKd c (typ s + D) (tSk tSm c n (typ s + D))).toNat) (tyx s)))) p93hf ?_)
              refine And.intro ⟨(by omega), (zRb rfl)⟩ ⟨fun h5_112 => ?_, fun h5_112 => ?_⟩
              · refine And.intro (zDX hD 0 rfl) (zrdR (v := some (k + 10)) (zDR hD 9 rfl) ?_)
                refine And.intro (zDX hD 0 rfl) (zrd (v := (tyn s)) ((p93bbfr k 17 (by omega) (by omega) (by omega) (by omega) (by omega)).trans ((p38bbbfr k 17 (by omega) (by omega) (by omega) (by omega) (by omega) (by omega) (by omega)).trans s17)) ?_)
                refine And.intro ⟨(by show 40 ≤ _; omega), (zDP hD 10 rfl rfl (by omega) (by omega))⟩ ⟨_, (zWi (by omega)), ?_⟩
                refine And.intro (zDX hD 0 rfl) (zrdR (v := some (k + 11)) (zDR hD 10 rfl) ?_)
                refine And.intro ⟨(by show 40 ≤ _; omega), (zDP hD 11 rfl rfl (by omega) (by omega))⟩ ⟨_, (zWi (by omega)), ?_⟩
                refine And.intro (zDX hD 0 rfl) ⟨_, (zWi (by omega)), ?_⟩
                refine And.intro (zDX hD 0 rfl) (zrd (v := (tyn s)) (zxs (by decide) (zxu (by omega) (zxu (by omega) ((p93bbfr k 17 (by omega) (by omega) (by omega) (by omega) (by omega)).trans ((p38bbbfr k 17 (by omega) (by omega) (by omega) (by omega) (by omega) (by omega) (by omega)).trans s17))))) ?_)
                refine And.intro (zDX hD 0 rfl) ⟨_, (zWi (by omega)), ?_⟩
                refine hQ _ _ _ ?_ ?_ (by omega) (fun c j h0 h1 h2 h3 h4 h5 h6 h7 h8 h9 h10 h11 h12 h13 h14 h15 => (zxcj h1 (zxcj h6 (zxu h15 (zxu h14 ((p93bbfr c j h2 h3 h4 (fun w => h9 ⟨w.1, w.2.1⟩) (fun w => h10 ⟨w.1, w.2.1⟩)).trans ((p38bbbfr c j h2 h3 h4 (fun w => h7 ⟨w.1, w.2.1⟩) (fun w => h8 ⟨w.1, w.2.1⟩) (fun w => h12 ⟨w.1, w.2.1⟩) (fun w => h9 ⟨w.1, w.2.1⟩)).trans rfl))))))) (fun c j h0 h1 => ((p93bbbfrL c j h0 (fun w => h1 ⟨w.1, w.2.1⟩)).trans ((p38bbbbfrL c j (fun w => h1 ⟨w.1, w.2.1⟩)).trans rfl)))
                · first
                  | (rw [tyA_nb hDD hDx.2.2.1 w38.1]
                     exact w38.2.2)
                  | (rw [tyA_y hDD hD46 hDx.2.2.1 w38.1]
                     have em := tSm_s hc w38.1.1
                     first
                     | (rw [tyB_9 (show (tKd c (typ s + D) (tSk tSm c n (typ s + D))) = 9 by omega), tkX_0]
                        exact p68hf)
                     | (by_cases hz : tVz c n 0 ((tKd c (typ s + D) (tSk tSm c n (typ s + D))).toNat) (tSk tSm c n (typ s + D)) (tFv ((tKd c (typ s + D) (tSk tSm c n (typ s + D))).toNat) (tyx s)) = -1
                        · first
                          | (have y2 := p93bhok hz
                             have e1 : v93o.toNat = (tVp c n 0 ((tKd c (typ s + D) (tSk tSm c n (typ s + D))).toNat) (tSk tSm c n (typ s + D)) (tFv ((tKd c (typ s + D) (tSk tSm c n (typ s + D))).toNat) (tyx s))) := by omega
                             rw [e1] at p101hv
                             first
                             | (rw [tyB_v (show (tKd c (typ s + D) (tSk tSm c n (typ s + D))) ≠ 9 by omega) hz (fun _ => by omega)]
                                exact zxs (by omega) (zxs (by omega) (zxu (by omega) (zxu (by omega) (p93hf.trans hz)))))
                             | (rw [tyB_vn (show (tKd c (typ s + D) (tSk tSm c n (typ s + D))) ≠ 9 by omega) hz (by omega)]
                                exact (zxs (by omega) (zxs (by omega) (zxu (by omega) (zxu (by omega) zxe)))).trans (show _ = (((tVp c n 0 ((tKd c (typ s + D) (tSk tSm c n (typ s + D))).toNat) (tSk tSm c n (typ s + D)) (tFv ((tKd c (typ s + D) (tSk tSm c n (typ s + D))).toNat) (tyx s))) : Nat) : Int) by omega)))
                          | (have y2 := g81bb hz
                             have e1 : v81o.toNat = (tVp c n 0 ((tKd c (typ s + D) (tSk tSm c n (typ s + D))).toNat) (tSk tSm c n (typ s + D)) (tFv ((tKd c (typ s + D) (tSk tSm c n (typ s + D))).toNat) (tyx s))) := by omega
                             rw [e1] at p101hv
                             first
                             | (rw [tyB_v (show (tKd c (typ s + D) (tSk tSm c n (typ s + D))) ≠ 9 by omega) hz (fun _ => by omega)]
                                exact zxs (by omega) (zxs (by omega) (zxu (by omega) (zxu (by omega) (g81b.trans hz)))))
                             | (rw [tyB_vn (show (tKd c (typ s + D) (tSk tSm c n (typ s + D))) ≠ 9 by omega) hz (by omega)]
                                exact (zxs (by omega) (zxs (by omega) (zxu (by omega) (zxu (by omega) zxe)))).trans (show _ = (((tVp c n 0 ((tKd c (typ s + D) (tSk tSm c n (typ s + D))).toNat) (tSk tSm c n (typ s + D)) (tFv ((tKd c (typ s + D) (tSk tSm c n (typ s + D))).toNat) (tyx s))) : Nat) : Int) by omega)))
                        · rw [tyB_vf hc em.2.1 (show (tKd c (typ s + D) (tSk tSm c n (typ s + D))) ≠ 9 by omega) hz]
                          first
                          | exact zxs (by omega) (zxs (by omega) (zxu (by omega) (zxu (by omega) p93hf)))
                          | exact zxs (by omega) (zxs (by omega) (zxu (by omega) (zxu (by omega) g81b)))
                          | (exfalso; omega)))
                  | (exfalso; omega)
                · intro h9
                  first
                  | (exfalso
                     rw [tyA_nb hDD hDx.2.2.1 w38.1] at h9
                     exact tyF_f h9)
                  | (rw [tyA_y hDD hD46 hDx.2.2.1 w38.1] at h9 ⊢
                     have em := tSm_s hc w38.1.1
                     first
                     | (have hx : tlX c n (typ s + D + 2000 - tyk s) D (tSk tSm c n (typ s + D)) = -1 := by
                          rw [tyB_9 (show (tKd c (typ s + D) (tSk tSm c n (typ s + D))) = 9 by omega), tkX_0] at h9
                          exact h9
                        have y2 := p68bhok hx
                        have eb := tlX_b hc hx
                        have e9 : v38o.toNat = 9 := by omega
                        rw [tyB_u (show (tKd c (typ s + D) (tSk tSm c n (typ s + D))) = 9 by omega) (tkX_0.trans hx), tkE_0]
                        refine ⟨?_, y2.1, (p68bbbbfr k 30 (by omega) (by omega) (by omega) (by omega) (by omega) (by omega)).trans ((p38bbbfr k 30 (by omega) (by omega) (by omega) (by omega) (by omega) (by omega) (by omega)).trans hls)⟩
                        exact zVO_U hs hg (by omega) (hn0_ w38.1 (by omega)) p68bbhfd9 y2.2.1 ((p68bbbbfr k 16 (by omega) (by omega) (by omega) (by omega) (by omega) (by omega)).trans (p38bbbfr k 16 (by omega) (by omega) (by omega) (by omega) (by omega) (by omega) (by omega))) (fun e => ⟨(p68bbbbfr (k + 10) e (by omega) (by omega) (by omega) (by omega) (by omega) (by omega)).trans (p38bbbfr (k + 10) e (by omega) (by omega) (by omega) (by omega) (by omega) (by omega) (by omega)), (p68bbbbfr (k + 11) e (by omega) (by omega) (by omega) (by omega) (by omega) (by omega)).trans (p38bbbfr (k + 11) e (by omega) (by omega) (by omega) (by omega) (by omega) (by omega) (by omega))⟩)
                          (fun w => ⟨(p68bbbbfr (k + 2) _ (by omega) (by omega) (by omega) (by omega) (by omega) (by omega)).trans ((p38bbhst (by omega) w).1.trans (by omega)), (p68bbbbfr (k + 3) _ (by omega) (by omega) (by omega) (by omega) (by omega) (by omega)).trans (g38b (by omega) w)⟩) y2.2.2 (fun w i hi => ((p38bbhst (by omega) w).2.2.2.2 i hi).trans (by rw [e9]))
                          (fun w x j hx hj => (p68bbbbfr x j (by omega) (by omega) (by omega) (by omega) (by omega) (by omega)).trans (p38bbbfr x j (by omega) (by omega) (by omega) (by omega) (by omega) (by omega) (by omega))) (fun w j hj => (p68bbbbfr (k + 5) j (by omega) (by omega) (by omega) (by omega) (by omega) (by omega)).trans (p38bbbfr (k + 5) j (by omega) (by omega) (by omega) (by omega) (by omega) (by omega) (by omega))) (fun w j hj => (p68bbbbfr (k + 6) j (by omega) (by omega) (by omega) (by omega) (by omega) (by omega)).trans (p38bbbfr (k + 6) j (by omega) (by omega) (by omega) (by omega) (by omega) (by omega) (by omega))) (fun w j hj => (p68bbbbfr (k + 9) j (by omega) (by omega) (by omega) (by omega) (by omega) (by omega)).trans (p38bbbfr (k + 9) j (by omega) (by omega) (by omega) (by omega) (by omega) (by omega) (by omega))) (fun w j hj => p38bbbbfrL (k + 4) j (by omega)))
                     | (by_cases hz : tVz c n 0 ((tKd c (typ s + D) (tSk tSm c n (typ s + D))).toNat) (tSk tSm c n (typ s + D)) (tFv ((tKd c (typ s + D) (tSk tSm c n (typ s + D))).toNat) (tyx s)) = -1
                        · first
                          | (have y3 := p93bhok hz
                             have y2 : v93o = (tVp c n 0 ((tKd c (typ s + D) (tSk tSm c n (typ s + D))).toNat) (tSk tSm c n (typ s + D)) (tFv ((tKd c (typ s + D) (tSk tSm c n (typ s + D))).toNat) (tyx s))) ∧ True := ⟨y3.1, trivial⟩
                             have e1 : v93o.toNat = (tVp c n 0 ((tKd c (typ s + D) (tSk tSm c n (typ s + D))).toNat) (tSk tSm c n (typ s + D)) (tFv ((tKd c (typ s + D) (tSk tSm c n (typ s + D))).toNat) (tyx s))) := by omega
                             rw [e1] at p101hv
                             first
                             | (exfalso
                                rw [tyB_vn (show (tKd c (typ s + D) (tSk tSm c n (typ s + D))) ≠ 9 by omega) hz (by omega)] at h9
                                exact tyF_f h9)
                             | (rw [tyB_v (show (tKd c (typ s + D) (tSk tSm c n (typ s + D))) ≠ 9 by omega) hz (fun _ => by omega)]
                                exact ⟨zVO_O (I1 := I93o) (L1 := L93o) hs hg (a_ := ((tKd c (typ s + D) (tSk tSm c n (typ s + D))).toNat)) (by omega) (by omega) hDx.2.1 zxe (zxs (by omega) (zxs (by omega) (zxu (by omega) (zxu (by omega) ((p93bbfr k 22 (by omega) (by omega) (by omega) (by omega) (by omega)).trans ((p38bbbfr k 22 (by omega) (by omega) (by omega) (by omega) (by omega) (by omega) (by omega)).trans s22)))))) ((zxs (by omega) (zxs (by omega) (zxu (by omega) (zxu (by omega) ((p93bbfr k 16 (by omega) (by omega) (by omega) (by omega) (by omega)).trans ((p38bbbfr k 16 (by omega) (by omega) (by omega) (by omega) (by omega) (by omega) (by omega)).trans (s16 (hn0_ w38.1 (by omega))))))))).trans (tXx_f (by omega)).symm)
                          ⟨zxu (by omega) (zxu (by omega) (zxu (by omega) (zxe' (by omega)))), zxu (by omega) (zxu (by omega) ((zxe' (by omega)).trans (by omega)))⟩ (fun e he => ⟨zxu (by omega) (zxu (by omega) (zxu (by omega) (zxs (by omega) ((p93bbfr (k + 10) e (by omega) (by omega) (by omega) (by omega) (by omega)).trans (p38bbbfr (k + 10) e (by omega) (by omega) (by omega) (by omega) (by omega) (by omega) (by omega)))))), zxu (by omega) (zxu (by omega) (zxs (by omega) (zxu (by omega) ((p93bbfr (k + 11) e (by omega) (by omega) (by omega) (by omega) (by omega)).trans (p38bbbfr (k + 11) e (by omega) (by omega) (by omega) (by omega) (by omega) (by omega) (by omega))))))⟩)
                          (fun w => ⟨(p93bbfr (k + 2) _ (by omega) (by omega) (by omega) (by omega) (by omega)).trans ((p38bbhst (by omega) w).1.trans w38.2.1), (p93bbfr (k + 3) _ (by omega) (by omega) (by omega) (by omega) (by omega)).trans (g38b (by omega) w)⟩) (fun w _ => y3.2 w) (fun w i h1 h2 => (p93bbbfrL (k + 4) _ (by omega) (by omega)).trans (((p38bbhst (by omega) w).2.2.2.2 i h2).trans (by rw [w38.2.1]))) (fun w i h1 h2 => (p93bbfr (k + 5) _ (by omega) (by omega) (by omega) (by omega) (by omega)).trans ((p38bbhst (by omega) w).2.2.2.1 i h2))
                          (fun x j h1 h2 => zxu (by omega) (zxu (by omega) (zxu (by omega) (zxu (by omega) rfl)))) (fun j => rfl)
                          (fun w x j hx hj => (p93bbfr x j (by omega) (by omega) (by omega) (by omega) (by omega)).trans (p38bbbfr x j (by omega) (by omega) (by omega) (by omega) (by omega) (by omega) (by omega))) (fun w j hj => (p93bbfr (k + 5) j (by omega) (by omega) (by omega) (by omega) (by omega)).trans (p38bbbfr (k + 5) j (by omega) (by omega) (by omega) (by omega) (by omega) (by omega) (by omega))) (fun w j hj => (p93bbfr (k + 6) j (by omega) (by omega) (by omega) (by omega) (by omega)).trans (p38bbbfr (k + 6) j (by omega) (by omega) (by omega) (by omega) (by omega) (by omega) (by omega))) (fun w j hj => (p93bbfr (k + 9) j (by omega) (by omega) (by omega) (by omega) (by omega)).trans (p38bbbfr (k + 9) j (by omega) (by omega) (by omega) (by omega) (by omega) (by omega) (by omega))) (fun w j hj => (p93bbbfrL (k + 4) j (by omega) (by omega)).trans (p38bbbbfrL (k + 4) j (by omega))), (by rw [y2.1]; show _ = (((tVp c n 0 ((tKd c (typ s + D) (tSk tSm c n (typ s + D))).toNat) (tSk tSm c n (typ s + D)) (tFv ((tKd c (typ s + D) (tSk tSm c n (typ s + D))).toNat) (tyx s))) + (1 - 0) : Nat) : Int); omega), zxs (by omega) (zxe.trans (show _ = ((D + 1 : Nat) : Int) - 1 by omega))⟩))
                          | (have y2 := g81bb hz
                             have e1 : v81o.toNat = (tVp c n 0 ((tKd c (typ s + D) (tSk tSm c n (typ s + D))).toNat) (tSk tSm c n (typ s + D)) (tFv ((tKd c (typ s + D) (tSk tSm c n (typ s + D))).toNat) (tyx s))) := by omega
                             rw [e1] at p101hv
                             first
                             | (exfalso
                                rw [tyB_vn (show (tKd c (typ s + D) (tSk tSm c n (typ s + D))) ≠ 9 by omega) hz (by omega)] at h9
                                exact tyF_f h9)
                             | (rw [tyB_v (show (tKd c (typ s + D) (tSk tSm c n (typ s + D))) ≠ 9 by omega) hz (fun _ => by omega)]
                                exact ⟨zVO_O (I1 := I81o) (L1 := L81o) hs hg (a_ := ((tKd c (typ s + D) (tSk tSm c n (typ s + D))).toNat)) (by omega) (by omega) hDx.2.1 zxe (zxs (by omega) (zxs (by omega) (zxu (by omega) (zxu (by omega) ((p81bfr k 22 (by omega) (by omega)).trans ((p38bbbfr k 22 (by omega) (by omega) (by omega) (by omega) (by omega) (by omega) (by omega)).trans s22)))))) (zxs (by omega) (zxs (by omega) (zxu (by omega) (zxu (by omega) y2.2))))
                          ⟨zxu (by omega) (zxu (by omega) (zxu (by omega) (zxe' (by omega)))), zxu (by omega) (zxu (by omega) ((zxe' (by omega)).trans (by omega)))⟩ (fun e he => ⟨zxu (by omega) (zxu (by omega) (zxu (by omega) (zxs (by omega) ((p81bfr (k + 10) e (by omega) (by omega)).trans (p38bbbfr (k + 10) e (by omega) (by omega) (by omega) (by omega) (by omega) (by omega) (by omega)))))), zxu (by omega) (zxu (by omega) (zxs (by omega) (zxu (by omega) ((p81bfr (k + 11) e (by omega) (by omega)).trans (p38bbbfr (k + 11) e (by omega) (by omega) (by omega) (by omega) (by omega) (by omega) (by omega))))))⟩)
                          (fun w => ⟨(p81bfr (k + 2) _ (by omega) (by omega)).trans ((p38bbhst (by omega) w).1.trans w38.2.1), (p81bfr (k + 3) _ (by omega) (by omega)).trans (g38b (by omega) w)⟩) (fun w h => absurd (by omega) h) (fun w i h1 h2 => (p81bbfrL (k + 4) _ (by omega)).trans (((p38bbhst (by omega) w).2.2.2.2 i h2).trans (by rw [w38.2.1]))) (fun w i h1 h2 => (p81bfr (k + 5) _ (by omega) (by omega)).trans ((p38bbhst (by omega) w).2.2.2.1 i h2))
                          (fun x j h1 h2 => zxu (by omega) (zxu (by omega) (zxu (by omega) (zxu (by omega) rfl)))) (fun j => rfl)
                          (fun w x j hx hj => (p81bfr x j (by omega) (by omega)).trans (p38bbbfr x j (by omega) (by omega) (by omega) (by omega) (by omega) (by omega) (by omega))) (fun w j hj => (p81bfr (k + 5) j (by omega) (by omega)).trans (p38bbbfr (k + 5) j (by omega) (by omega) (by omega) (by omega) (by omega) (by omega) (by omega))) (fun w j hj => (p81bfr (k + 6) j (by omega) (by omega)).trans (p38bbbfr (k + 6) j (by omega) (by omega) (by omega) (by omega) (by omega) (by omega) (by omega))) (fun w j hj => (p81bfr (k + 9) j (by omega) (by omega)).trans (p38bbbfr (k + 9) j (by omega) (by omega) (by omega) (by omega) (by omega) (by omega) (by omega))) (fun w j hj => (p81bbfrL (k + 4) j (by omega)).trans (p38bbbbfrL (k + 4) j (by omega))), (by rw [y2.1]; show _ = (((tVp c n 0 ((tKd c (typ s + D) (tSk tSm c n (typ s + D))).toNat) (tSk tSm c n (typ s + D)) (tFv ((tKd c (typ s + D) (tSk tSm c n (typ s + D))).toNat) (tyx s))) + (1 - 0) : Nat) : Int); omega), zxs (by omega) (zxe.trans (show _ = ((D + 1 : Nat) : Int) - 1 by omega))⟩))
                        · exfalso
                          rw [tyB_vf hc em.2.1 (show (tKd c (typ s + D) (tSk tSm c n (typ s + D))) ≠ 9 by omega) hz] at h9
                          exact hz h9))
                  | (exfalso; omega)
              · refine And.intro (zDX hD 0 rfl) ⟨_, (zWi (by omega)), ?_⟩
                refine And.intro (zDX hD 0 rfl) (zrdR (v := some (k + 10)) (zDR hD 9 rfl) ?_)
                refine And.intro (zDX hD 0 rfl) (zrd (v := (tyn s)) (zxs (by decide) ((p93bbfr k 17 (by omega) (by omega) (by omega) (by omega) (by omega)).trans ((p38bbbfr k 17 (by omega) (by omega) (by omega) (by omega) (by omega) (by omega) (by omega)).trans s17))) ?_)
                refine And.intro ⟨(by show 40 ≤ _; omega), (zDP hD 10 rfl rfl (by omega) (by omega))⟩ ⟨_, (zWi (by omega)), ?_⟩
                refine And.intro (zDX hD 0 rfl) (zrdR (v := some (k + 11)) (zDR hD 10 rfl) ?_)
                refine And.intro ⟨(by show 40 ≤ _; omega), (zDP hD 11 rfl rfl (by omega) (by omega))⟩ ⟨_, (zWi (by omega)), ?_⟩
                refine And.intro (zDX hD 0 rfl) ⟨_, (zWi (by omega)), ?_⟩
                refine And.intro (zDX hD 0 rfl) (zrd (v := (tyn s)) (zxs (by decide) (zxu (by omega) (zxu (by omega) (zxs (by decide) ((p93bbfr k 17 (by omega) (by omega) (by omega) (by omega) (by omega)).trans ((p38bbbfr k 17 (by omega) (by omega) (by omega) (by omega) (by omega) (by omega) (by omega)).trans s17)))))) ?_)
                refine And.intro (zDX hD 0 rfl) ⟨_, (zWi (by omega)), ?_⟩
                refine hQ _ _ _ ?_ ?_ (by omega) (fun c j h0 h1 h2 h3 h4 h5 h6 h7 h8 h9 h10 h11 h12 h13 h14 h15 => (zxcj h1 (zxcj h6 (zxu h15 (zxu h14 (zxcj h2 ((p93bbfr c j h2 h3 h4 (fun w => h9 ⟨w.1, w.2.1⟩) (fun w => h10 ⟨w.1, w.2.1⟩)).trans ((p38bbbfr c j h2 h3 h4 (fun w => h7 ⟨w.1, w.2.1⟩) (fun w => h8 ⟨w.1, w.2.1⟩) (fun w => h12 ⟨w.1, w.2.1⟩) (fun w => h9 ⟨w.1, w.2.1⟩)).trans rfl)))))))) (fun c j h0 h1 => ((p93bbbfrL c j h0 (fun w => h1 ⟨w.1, w.2.1⟩)).trans ((p38bbbbfrL c j (fun w => h1 ⟨w.1, w.2.1⟩)).trans rfl)))
                · first
                  | (rw [tyA_nb hDD hDx.2.2.1 w38.1]
                     exact w38.2.2)
                  | (rw [tyA_y hDD hD46 hDx.2.2.1 w38.1]
                     have em := tSm_s hc w38.1.1
                     first
                     | (rw [tyB_9 (show (tKd c (typ s + D) (tSk tSm c n (typ s + D))) = 9 by omega), tkX_0]
                        exact p68hf)
                     | (by_cases hz : tVz c n 0 ((tKd c (typ s + D) (tSk tSm c n (typ s + D))).toNat) (tSk tSm c n (typ s + D)) (tFv ((tKd c (typ s + D) (tSk tSm c n (typ s + D))).toNat) (tyx s)) = -1
                        · first
                          | (have y2 := p93bhok hz
                             have e1 : v93o.toNat = (tVp c n 0 ((tKd c (typ s + D) (tSk tSm c n (typ s + D))).toNat) (tSk tSm c n (typ s + D)) (tFv ((tKd c (typ s + D) (tSk tSm c n (typ s + D))).toNat) (tyx s))) := by omega
                             rw [e1] at p101hv
                             first
                             | (rw [tyB_v (show (tKd c (typ s + D) (tSk tSm c n (typ s + D))) ≠ 9 by omega) hz (fun _ => by omega)]
                                exact zxs (by omega) (zxs (by omega) (zxu (by omega) (zxu (by omega) (p93hf.trans hz)))))
                             | (rw [tyB_vn (show (tKd c (typ s + D) (tSk tSm c n (typ s + D))) ≠ 9 by omega) hz (by omega)]
                                exact (zxs (by omega) (zxs (by omega) (zxu (by omega) (zxu (by omega) zxe)))).trans (show _ = (((tVp c n 0 ((tKd c (typ s + D) (tSk tSm c n (typ s + D))).toNat) (tSk tSm c n (typ s + D)) (tFv ((tKd c (typ s + D) (tSk tSm c n (typ s + D))).toNat) (tyx s))) : Nat) : Int) by omega)))
                          | (have y2 := g81bb hz
                             have e1 : v81o.toNat = (tVp c n 0 ((tKd c (typ s + D) (tSk tSm c n (typ s + D))).toNat) (tSk tSm c n (typ s + D)) (tFv ((tKd c (typ s + D) (tSk tSm c n (typ s + D))).toNat) (tyx s))) := by omega
                             rw [e1] at p101hv
                             first
                             | (rw [tyB_v (show (tKd c (typ s + D) (tSk tSm c n (typ s + D))) ≠ 9 by omega) hz (fun _ => by omega)]
                                exact zxs (by omega) (zxs (by omega) (zxu (by omega) (zxu (by omega) (g81b.trans hz)))))
                             | (rw [tyB_vn (show (tKd c (typ s + D) (tSk tSm c n (typ s + D))) ≠ 9 by omega) hz (by omega)]
                                exact (zxs (by omega) (zxs (by omega) (zxu (by omega) (zxu (by omega) zxe)))).trans (show _ = (((tVp c n 0 ((tKd c (typ s + D) (tSk tSm c n (typ s + D))).toNat) (tSk tSm c n (typ s + D)) (tFv ((tKd c (typ s + D) (tSk tSm c n (typ s + D))).toNat) (tyx s))) : Nat) : Int) by omega)))
                        · rw [tyB_vf hc em.2.1 (show (tKd c (typ s + D) (tSk tSm c n (typ s + D))) ≠ 9 by omega) hz]
                          first
                          | exact zxs (by omega) (zxs (by omega) (zxu (by omega) (zxu (by omega) p93hf)))
                          | exact zxs (by omega) (zxs (by omega) (zxu (by omega) (zxu (by omega) g81b)))
                          | (exfalso; omega)))
                  | (exfalso; omega)
                · intro h9
                  first
                  | (exfalso
                     rw [tyA_nb hDD hDx.2.2.1 w38.1] at h9
                     exact tyF_f h9)
                  | (rw [tyA_y hDD hD46 hDx.2.2.1 w38.1] at h9 ⊢
                     have em := tSm_s hc w38.1.1
                     first
                     | (have hx : tlX c n (typ s + D + 2000 - tyk s) D (tSk tSm c n (typ s + D)) = -1 := by
                          rw [tyB_9 (show (tKd c (typ s + D) (tSk tSm c n (typ s + D))) = 9 by omega), tkX_0] at h9
                          exact h9
                        have y2 := p68bhok hx
                        have eb := tlX_b hc hx
                        have e9 : v38o.toNat = 9 := by omega
                        rw [tyB_u (show (tKd c (typ s + D) (tSk tSm c n (typ s + D))) = 9 by omega) (tkX_0.trans hx), tkE_0]
                        refine ⟨?_, y2.1, (p68bbbbfr k 30 (by omega) (by omega) (by omega) (by omega) (by omega) (by omega)).trans ((p38bbbfr k 30 (by omega) (by omega) (by omega) (by omega) (by omega) (by omega) (by omega)).trans hls)⟩
                        exact zVO_U hs hg (by omega) (hn0_ w38.1 (by omega)) p68bbhfd9 y2.2.1 ((p68bbbbfr k 16 (by omega) (by omega) (by omega) (by omega) (by omega) (by omega)).trans (p38bbbfr k 16 (by omega) (by omega) (by omega) (by omega) (by omega) (by omega) (by omega))) (fun e => ⟨(p68bbbbfr (k + 10) e (by omega) (by omega) (by omega) (by omega) (by omega) (by omega)).trans (p38bbbfr (k + 10) e (by omega) (by omega) (by omega) (by omega) (by omega) (by omega) (by omega)), (p68bbbbfr (k + 11) e (by omega) (by omega) (by omega) (by omega) (by omega) (by omega)).trans (p38bbbfr (k + 11) e (by omega) (by omega) (by omega) (by omega) (by omega) (by omega) (by omega))⟩)
                          (fun w => ⟨(p68bbbbfr (k + 2) _ (by omega) (by omega) (by omega) (by omega) (by omega) (by omega)).trans ((p38bbhst (by omega) w).1.trans (by omega)), (p68bbbbfr (k + 3) _ (by omega) (by omega) (by omega) (by omega) (by omega) (by omega)).trans (g38b (by omega) w)⟩) y2.2.2 (fun w i hi => ((p38bbhst (by omega) w).2.2.2.2 i hi).trans (by rw [e9]))
                          (fun w x j hx hj => (p68bbbbfr x j (by omega) (by omega) (by omega) (by omega) (by omega) (by omega)).trans (p38bbbfr x j (by omega) (by omega) (by omega) (by omega) (by omega) (by omega) (by omega))) (fun w j hj => (p68bbbbfr (k + 5) j (by omega) (by omega) (by omega) (by omega) (by omega) (by omega)).trans (p38bbbfr (k + 5) j (by omega) (by omega) (by omega) (by omega) (by omega) (by omega) (by omega))) (fun w j hj => (p68bbbbfr (k + 6) j (by omega) (by omega) (by omega) (by omega) (by omega) (by omega)).trans (p38bbbfr (k + 6) j (by omega) (by omega) (by omega) (by omega) (by omega) (by omega) (by omega))) (fun w j hj => (p68bbbbfr (k + 9) j (by omega) (by omega) (by omega) (by omega) (by omega) (by omega)).trans (p38bbbfr (k + 9) j (by omega) (by omega) (by omega) (by omega) (by omega) (by omega) (by omega))) (fun w j hj => p38bbbbfrL (k + 4) j (by omega)))
                     | (by_cases hz : tVz c n 0 ((tKd c (typ s + D) (tSk tSm c n (typ s + D))).toNat) (tSk tSm c n (typ s + D)) (tFv ((tKd c (typ s + D) (tSk tSm c n (typ s + D))).toNat) (tyx s)) = -1
                        · first
                          | (have y3 := p93bhok hz
                             have y2 : v93o = (tVp c n 0 ((tKd c (typ s + D) (tSk tSm c n (typ s + D))).toNat) (tSk tSm c n (typ s + D)) (tFv ((tKd c (typ s + D) (tSk tSm c n (typ s + D))).toNat) (tyx s))) ∧ True := ⟨y3.1, trivial⟩
                             have e1 : v93o.toNat = (tVp c n 0 ((tKd c (typ s + D) (tSk tSm c n (typ s + D))).toNat) (tSk tSm c n (typ s + D)) (tFv ((tKd c (typ s + D) (tSk tSm c n (typ s + D))).toNat) (tyx s))) := by omega
                             rw [e1] at p101hv
                             first
                             | (exfalso
                                rw [tyB_vn (show (tKd c (typ s + D) (tSk tSm c n (typ s + D))) ≠ 9 by omega) hz (by omega)] at h9
                                exact tyF_f h9)
                             | (rw [tyB_v (show (tKd c (typ s + D) (tSk tSm c n (typ s + D))) ≠ 9 by omega) hz (fun _ => by omega)]
                                exact ⟨zVO_O (I1 := I93o) (L1 := L93o) hs hg (a_ := ((tKd c (typ s + D) (tSk tSm c n (typ s + D))).toNat)) (by omega) (by omega) hDx.2.1 zxe (zxs (by omega) (zxs (by omega) (zxu (by omega) (zxu (by omega) ((p93bbfr k 22 (by omega) (by omega) (by omega) (by omega) (by omega)).trans ((p38bbbfr k 22 (by omega) (by omega) (by omega) (by omega) (by omega) (by omega) (by omega)).trans s22)))))) ((zxs (by omega) (zxs (by omega) (zxu (by omega) (zxu (by omega) ((p93bbfr k 16 (by omega) (by omega) (by omega) (by omega) (by omega)).trans ((p38bbbfr k 16 (by omega) (by omega) (by omega) (by omega) (by omega) (by omega) (by omega)).trans (s16 (hn0_ w38.1 (by omega))))))))).trans (tXx_f (by omega)).symm)
                          ⟨zxu (by omega) (zxu (by omega) (zxu (by omega) (zxe' (by omega)))), zxu (by omega) (zxu (by omega) ((zxe' (by omega)).trans (by omega)))⟩ (fun e he => ⟨zxu (by omega) (zxu (by omega) (zxu (by omega) (zxs (by omega) ((p93bbfr (k + 10) e (by omega) (by omega) (by omega) (by omega) (by omega)).trans (p38bbbfr (k + 10) e (by omega) (by omega) (by omega) (by omega) (by omega) (by omega) (by omega)))))), zxu (by omega) (zxu (by omega) (zxs (by omega) (zxu (by omega) ((p93bbfr (k + 11) e (by omega) (by omega) (by omega) (by omega) (by omega)).trans (p38bbbfr (k + 11) e (by omega) (by omega) (by omega) (by omega) (by omega) (by omega) (by omega))))))⟩)
                          (fun w => ⟨(p93bbfr (k + 2) _ (by omega) (by omega) (by omega) (by omega) (by omega)).trans ((p38bbhst (by omega) w).1.trans w38.2.1), (p93bbfr (k + 3) _ (by omega) (by omega) (by omega) (by omega) (by omega)).trans (g38b (by omega) w)⟩) (fun w _ => y3.2 w) (fun w i h1 h2 => (p93bbbfrL (k + 4) _ (by omega) (by omega)).trans (((p38bbhst (by omega) w).2.2.2.2 i h2).trans (by rw [w38.2.1]))) (fun w i h1 h2 => (p93bbfr (k + 5) _ (by omega) (by omega) (by omega) (by omega) (by omega)).trans ((p38bbhst (by omega) w).2.2.2.1 i h2))
                          (fun x j h1 h2 => zxu (by omega) (zxu (by omega) (zxu (by omega) (zxu (by omega) rfl)))) (fun j => rfl)
                          (fun w x j hx hj => (p93bbfr x j (by omega) (by omega) (by omega) (by omega) (by omega)).trans (p38bbbfr x j (by omega) (by omega) (by omega) (by omega) (by omega) (by omega) (by omega))) (fun w j hj => (p93bbfr (k + 5) j (by omega) (by omega) (by omega) (by omega) (by omega)).trans (p38bbbfr (k + 5) j (by omega) (by omega) (by omega) (by omega) (by omega) (by omega) (by omega))) (fun w j hj => (p93bbfr (k + 6) j (by omega) (by omega) (by omega) (by omega) (by omega)).trans (p38bbbfr (k + 6) j (by omega) (by omega) (by omega) (by omega) (by omega) (by omega) (by omega))) (fun w j hj => (p93bbfr (k + 9) j (by omega) (by omega) (by omega) (by omega) (by omega)).trans (p38bbbfr (k + 9) j (by omega) (by omega) (by omega) (by omega) (by omega) (by omega) (by omega))) (fun w j hj => (p93bbbfrL (k + 4) j (by omega) (by omega)).trans (p38bbbbfrL (k + 4) j (by omega))), (by rw [y2.1]; show _ = (((tVp c n 0 ((tKd c (typ s + D) (tSk tSm c n (typ s + D))).toNat) (tSk tSm c n (typ s + D)) (tFv ((tKd c (typ s + D) (tSk tSm c n (typ s + D))).toNat) (tyx s))) + (1 - 0) : Nat) : Int); omega), zxs (by omega) (zxe.trans (show _ = ((D + 1 : Nat) : Int) - 1 by omega))⟩))
                          | (have y2 := g81bb hz
                             have e1 : v81o.toNat = (tVp c n 0 ((tKd c (typ s + D) (tSk tSm c n (typ s + D))).toNat) (tSk tSm c n (typ s + D)) (tFv ((tKd c (typ s + D) (tSk tSm c n (typ s + D))).toNat) (tyx s))) := by omega
                             rw [e1] at p101hv
                             first
                             | (exfalso
                                rw [tyB_vn (show (tKd c (typ s + D) (tSk tSm c n (typ s + D))) ≠ 9 by omega) hz (by omega)] at h9
                                exact tyF_f h9)
                             | (rw [tyB_v (show (tKd c (typ s + D) (tSk tSm c n (typ s + D))) ≠ 9 by omega) hz (fun _ => by omega)]
                                exact ⟨zVO_O (I1 := I81o) (L1 := L81o) hs hg (a_ := ((tKd c (typ s + D) (tSk tSm c n (typ s + D))).toNat)) (by omega) (by omega) hDx.2.1 zxe (zxs (by omega) (zxs (by omega) (zxu (by omega) (zxu (by omega) ((p81bfr k 22 (by omega) (by omega)).trans ((p38bbbfr k 22 (by omega) (by omega) (by omega) (by omega) (by omega) (by omega) (by omega)).trans s22)))))) (zxs (by omega) (zxs (by omega) (zxu (by omega) (zxu (by omega) y2.2))))
                          ⟨zxu (by omega) (zxu (by omega) (zxu (by omega) (zxe' (by omega)))), zxu (by omega) (zxu (by omega) ((zxe' (by omega)).trans (by omega)))⟩ (fun e he => ⟨zxu (by omega) (zxu (by omega) (zxu (by omega) (zxs (by omega) ((p81bfr (k + 10) e (by omega) (by omega)).trans (p38bbbfr (k + 10) e (by omega) (by omega) (by omega) (by omega) (by omega) (by omega) (by omega)))))), zxu (by omega) (zxu (by omega) (zxs (by omega) (zxu (by omega) ((p81bfr (k + 11) e (by omega) (by omega)).trans (p38bbbfr (k + 11) e (by omega) (by omega) (by omega) (by omega) (by omega) (by omega) (by omega))))))⟩)
                          (fun w => ⟨(p81bfr (k + 2) _ (by omega) (by omega)).trans ((p38bbhst (by omega) w).1.trans w38.2.1), (p81bfr (k + 3) _ (by omega) (by omega)).trans (g38b (by omega) w)⟩) (fun w h => absurd (by omega) h) (fun w i h1 h2 => (p81bbfrL (k + 4) _ (by omega)).trans (((p38bbhst (by omega) w).2.2.2.2 i h2).trans (by rw [w38.2.1]))) (fun w i h1 h2 => (p81bfr (k + 5) _ (by omega) (by omega)).trans ((p38bbhst (by omega) w).2.2.2.1 i h2))
                          (fun x j h1 h2 => zxu (by omega) (zxu (by omega) (zxu (by omega) (zxu (by omega) rfl)))) (fun j => rfl)
                          (fun w x j hx hj => (p81bfr x j (by omega) (by omega)).trans (p38bbbfr x j (by omega) (by omega) (by omega) (by omega) (by omega) (by omega) (by omega))) (fun w j hj => (p81bfr (k + 5) j (by omega) (by omega)).trans (p38bbbfr (k + 5) j (by omega) (by omega) (by omega) (by omega) (by omega) (by omega) (by omega))) (fun w j hj => (p81bfr (k + 6) j (by omega) (by omega)).trans (p38bbbfr (k + 6) j (by omega) (by omega) (by omega) (by omega) (by omega) (by omega) (by omega))) (fun w j hj => (p81bfr (k + 9) j (by omega) (by omega)).trans (p38bbbfr (k + 9) j (by omega) (by omega) (by omega) (by omega) (by omega) (by omega) (by omega))) (fun w j hj => (p81bbfrL (k + 4) j (by omega)).trans (p38bbbbfrL (k + 4) j (by omega))), (by rw [y2.1]; show _ = (((tVp c n 0 ((tKd c (typ s + D) (tSk tSm c n (typ s + D))).toNat) (tSk tSm c n (typ s + D)) (tFv ((tKd c (typ s + D) (tSk tSm c n (typ s + D))).toNat) (tyx s))) + (1 - 0) : Nat) : Int); omega), zxs (by omega) (zxe.trans (show _ = ((D + 1 : Nat) : Int) - 1 by omega))⟩))
                        · exfalso
                          rw [tyB_vf hc em.2.1 (show (tKd c (typ s + D) (tSk tSm c n (typ s + D))) ≠ 9 by omega) hz] at h9
                          exact hz h9))
                  | (exfalso; omega)
          · refine And.intro (zDX hD 0 rfl) ⟨_, sn_V_ver2.up (by decide), ?_⟩
            refine ⟨_, _, _, (v53o : Int), (tSk tSm c n (typ s + D)), (0 : Int), 0, rfl, hD, (by first | exact (zRM_fr hX (fun c j h => ((p38bbbfr c j (by omega) (by omega) (by omega) (by omega) (by omega) (by omega) (by omega)).trans rfl))) | (clear hQ; grind [xu])), (by first | exact hc | (clear hQ; grind [xu])), ⟨by omega, by omega⟩, (by omega), (Eq.trans (b := ((-1) : Int)) w38.2.2.1 (by omega)), ?_⟩
            intro v81o I81o L81o p81hg p81bfr p81bbfrL p81bbbhvb9
            have g81 : -1 ≤ tVz c n 0 ((tKd c (typ s + D) (tSk tSm c n (typ s + D))).toNat) (tSk tSm c n (typ s + D)) (tFv ((tKd c (typ s + D) (tSk tSm c n (typ s + D))).toNat) (tyx s)) ∧ tVz c n 0 ((tKd c (typ s + D) (tSk tSm c n (typ s + D))).toNat) (tSk tSm c n (typ s + D)) (tFv ((tKd c (typ s + D) (tSk tSm c n (typ s + D))).toNat) (tyx s)) ≤ 9000 := ⟨tVz_ge hc (tSm_s hc w38.1.1).2.1, tVz_le hc (tSm_s hc w38.1.1).2.1⟩
            have g81b : I81o k 18 = tVz c n 0 ((tKd c (typ s + D) (tSk tSm c n (typ s + D))).toNat) (tSk tSm c n (typ s + D)) (tFv ((tKd c (typ s + D) (tSk tSm c n (typ s + D))).toNat) (tyx s)) := by
              have e0 : ((tKd c (typ s + D) (tSk tSm c n (typ s + D))).toNat) = 0 := by omega
              rw [e0, tFv_00]
              rcases p81hg with w | w
              · rw [tVz_v.1 w.1]
                exact w.2
              · rw [tVz_v.2.1 w.1]
                exact w.2.1
            have g81bb : tVz c n 0 ((tKd c (typ s + D) (tSk tSm c n (typ s + D))).toNat) (tSk tSm c n (typ s + D)) (tFv ((tKd c (typ s + D) (tSk tSm c n (typ s + D))).toNat) (tyx s)) = -1 → v81o = (tVp c n 0 ((tKd c (typ s + D) (tSk tSm c n (typ s + D))).toNat) (tSk tSm c n (typ s + D)) (tFv ((tKd c (typ s + D) (tSk tSm c n (typ s + D))).toNat) (tyx s))) ∧ I81o k 16 = tXx c n 0 ((tKd c (typ s + D) (tSk tSm c n (typ s + D))).toNat) (tSk tSm c n (typ s + D)) (tFv ((tKd c (typ s + D) (tSk tSm c n (typ s + D))).toNat) (tyx s)) (tyx s) := by
              intro h9
              have e0 : ((tKd c (typ s + D) (tSk tSm c n (typ s + D))).toNat) = 0 := by omega
              rw [e0, tFv_00] at h9 ⊢
              rcases p81hg with w | w
              · exfalso
                rw [tVz_v.1 w.1] at h9
                omega
              · rw [tVz_v.2.1 w.1] at h9
                have y2 := w.2.2 h9
                exact ⟨y2.1.trans (congrArg Nat.cast tVz_v.2.2.1.symm), y2.2.1.trans (tVz_v.2.2.2 _).symm⟩
            refine And.intro (zDX hD 0 rfl) ⟨_, sn_V_c.up (by decide), ?_⟩
            refine ⟨_, _, _, (v81o : Int), (v81o).toNat, rfl, hD, (by first | exact (zRM_fr hX (fun c j h => ((p81bfr c j (by omega) (by omega)).trans ((p38bbbfr c j (by omega) (by omega) (by omega) (by omega) (by omega) (by omega) (by omega)).trans rfl)))) | (clear hQ; grind [xu])), (by first | exact hc | (clear hQ; grind [xu])), (by omega), ?_⟩
            intro v101o p101hv p101bhv2
            refine And.intro ⟨(by omega), (zRb rfl)⟩ ⟨fun h106 => ?_, fun h106 => ?_⟩
            · refine And.intro (zDX hD 0 rfl) (zrdR (v := some (k + 10)) (zDR hD 9 rfl) ?_)
              refine And.intro (zDX hD 0 rfl) (zrd (v := (tyn s)) ((p81bfr k 17 (by omega) (by omega)).trans ((p38bbbfr k 17 (by omega) (by omega) (by omega) (by omega) (by omega) (by omega) (by omega)).trans s17)) ?_)
              refine And.intro ⟨(by show 40 ≤ _; omega), (zDP hD 10 rfl rfl (by omega) (by omega))⟩ ⟨_, (zWi (by omega)), ?_⟩
              refine And.intro (zDX hD 0 rfl) (zrdR (v := some (k + 11)) (zDR hD 10 rfl) ?_)
              refine And.intro ⟨(by show 40 ≤ _; omega), (zDP hD 11 rfl rfl (by omega) (by omega))⟩ ⟨_, (zWi (by omega)), ?_⟩
              refine And.intro (zDX hD 0 rfl) ⟨_, (zWi (by omega)), ?_⟩
              refine And.intro (zDX hD 0 rfl) (zrd (v := (tyn s)) (zxs (by decide) (zxu (by omega) (zxu (by omega) ((p81bfr k 17 (by omega) (by omega)).trans ((p38bbbfr k 17 (by omega) (by omega) (by omega) (by omega) (by omega) (by omega) (by omega)).trans s17))))) ?_)
              refine And.intro (zDX hD 0 rfl) ⟨_, (zWi (by omega)), ?_⟩
              refine hQ _ _ _ ?_ ?_ (by omega) (fun c j h0 h1 h2 h3 h4 h5 h6 h7 h8 h9 h10 h11 h12 h13 h14 h15 => (zxcj h1 (zxcj h6 (zxu h15 (zxu h14 ((p81bfr c j h2 h0).trans ((p38bbbfr c j h2 h3 h4 (fun w => h7 ⟨w.1, w.2.1⟩) (fun w => h8 ⟨w.1, w.2.1⟩) (fun w => h12 ⟨w.1, w.2.1⟩) (fun w => h9 ⟨w.1, w.2.1⟩)).trans rfl))))))) (fun c j h0 h1 => ((p81bbfrL c j h0).trans ((p38bbbbfrL c j (fun w => h1 ⟨w.1, w.2.1⟩)).trans rfl)))
              · first
                | (rw [tyA_nb hDD hDx.2.2.1 w38.1]
                   exact w38.2.2)
                | (rw [tyA_y hDD hD46 hDx.2.2.1 w38.1]
                   have em := tSm_s hc w38.1.1
                   first
                   | (rw [tyB_9 (show (tKd c (typ s + D) (tSk tSm c n (typ s + D))) = 9 by omega), tkX_0]
                      exact p68hf)
                   | (by_cases hz : tVz c n 0 ((tKd c (typ s + D) (tSk tSm c n (typ s + D))).toNat) (tSk tSm c n (typ s + D)) (tFv ((tKd c (typ s + D) (tSk tSm c n (typ s + D))).toNat) (tyx s)) = -1
                      · first
                        | (have y2 := p93bhok hz
                           have e1 : v93o.toNat = (tVp c n 0 ((tKd c (typ s + D) (tSk tSm c n (typ s + D))).toNat) (tSk tSm c n (typ s + D)) (tFv ((tKd c (typ s + D) (tSk tSm c n (typ s + D))).toNat) (tyx s))) := by omega
                           rw [e1] at p101hv
                           first
                           | (rw [tyB_v (show (tKd c (typ s + D) (tSk tSm c n (typ s + D))) ≠ 9 by omega) hz (fun _ => by omega)]
                              exact zxs (by omega) (zxs (by omega) (zxu (by omega) (zxu (by omega) (p93hf.trans hz)))))
                           | (rw [tyB_vn (show (tKd c (typ s + D) (tSk tSm c n (typ s + D))) ≠ 9 by omega) hz (by omega)]
                              exact (zxs (by omega) (zxs (by omega) (zxu (by omega) (zxu (by omega) zxe)))).trans (show _ = (((tVp c n 0 ((tKd c (typ s + D) (tSk tSm c n (typ s + D))).toNat) (tSk tSm c n (typ s + D)) (tFv ((tKd c (typ s + D) (tSk tSm c n (typ s + D))).toNat) (tyx s))) : Nat) : Int) by omega)))
                        | (have y2 := g81bb hz
                           have e1 : v81o.toNat = (tVp c n 0 ((tKd c (typ s + D) (tSk tSm c n (typ s + D))).toNat) (tSk tSm c n (typ s + D)) (tFv ((tKd c (typ s + D) (tSk tSm c n (typ s + D))).toNat) (tyx s))) := by omega
                           rw [e1] at p101hv
                           first
                           | (rw [tyB_v (show (tKd c (typ s + D) (tSk tSm c n (typ s + D))) ≠ 9 by omega) hz (fun _ => by omega)]
                              exact zxs (by omega) (zxs (by omega) (zxu (by omega) (zxu (by omega) (g81b.trans hz)))))
                           | (rw [tyB_vn (show (tKd c (typ s + D) (tSk tSm c n (typ s + D))) ≠ 9 by omega) hz (by omega)]
                              exact (zxs (by omega) (zxs (by omega) (zxu (by omega) (zxu (by omega) zxe)))).trans (show _ = (((tVp c n 0 ((tKd c (typ s + D) (tSk tSm c n (typ s + D))).toNat) (tSk tSm c n (typ s + D)) (tFv ((tKd c (typ s + D) (tSk tSm c n (typ s + D))).toNat) (tyx s))) : Nat) : Int) by omega)))
                      · rw [tyB_vf hc em.2.1 (show (tKd c (typ s + D) (tSk tSm c n (typ s + D))) ≠ 9 by omega) hz]
                        first
                        | exact zxs (by omega) (zxs (by omega) (zxu (by omega) (zxu (by omega) p93hf)))
                        | exact zxs (by omega) (zxs (by omega) (zxu (by omega) (zxu (by omega) g81b)))
                        | (exfalso; omega)))
                | (exfalso; omega)
              · intro h9
                first
                | (exfalso
                   rw [tyA_nb hDD hDx.2.2.1 w38.1] at h9
                   exact tyF_f h9)
                | (rw [tyA_y hDD hD46 hDx.2.2.1 w38.1] at h9 ⊢
                   have em := tSm_s hc w38.1.1
                   first
                   | (have hx : tlX c n (typ s + D + 2000 - tyk s) D (tSk tSm c n (typ s + D)) = -1 := by
                        rw [tyB_9 (show (tKd c (typ s + D) (tSk tSm c n (typ s + D))) = 9 by omega), tkX_0] at h9
                        exact h9
                      have y2 := p68bhok hx
                      have eb := tlX_b hc hx
                      have e9 : v38o.toNat = 9 := by omega
                      rw [tyB_u (show (tKd c (typ s + D) (tSk tSm c n (typ s + D))) = 9 by omega) (tkX_0.trans hx), tkE_0]
                      refine ⟨?_, y2.1, (p68bbbbfr k 30 (by omega) (by omega) (by omega) (by omega) (by omega) (by omega)).trans ((p38bbbfr k 30 (by omega) (by omega) (by omega) (by omega) (by omega) (by omega) (by omega)).trans hls)⟩
                      exact zVO_U hs hg (by omega) (hn0_ w38.1 (by omega)) p68bbhfd9 y2.2.1 ((p68bbbbfr k 16 (by omega) (by omega) (by omega) (by omega) (by omega) (by omega)).trans (p38bbbfr k 16 (by omega) (by omega) (by omega) (by omega) (by omega) (by omega) (by omega))) (fun e => ⟨(p68bbbbfr (k + 10) e (by omega) (by omega) (by omega) (by omega) (by omega) (by omega)).trans (p38bbbfr (k + 10) e (by omega) (by omega) (by omega) (by omega) (by omega) (by omega) (by omega)), (p68bbbbfr (k + 11) e (by omega) (by omega) (by omega) (by omega) (by omega) (by omega)).trans (p38bbbfr (k + 11) e (by omega) (by omega) (by omega) (by omega) (by omega) (by omega) (by omega))⟩)
                        (fun w => ⟨(p68bbbbfr (k + 2) _ (by omega) (by omega) (by omega) (by omega) (by omega) (by omega)).trans ((p38bbhst (by omega) w).1.trans (by omega)), (p68bbbbfr (k + 3) _ (by omega) (by omega) (by omega) (by omega) (by omega) (by omega)).trans (g38b (by omega) w)⟩) y2.2.2 (fun w i hi => ((p38bbhst (by omega) w).2.2.2.2 i hi).trans (by rw [e9]))
                        (fun w x j hx hj => (p68bbbbfr x j (by omega) (by omega) (by omega) (by omega) (by omega) (by omega)).trans (p38bbbfr x j (by omega) (by omega) (by omega) (by omega) (by omega) (by omega) (by omega))) (fun w j hj => (p68bbbbfr (k + 5) j (by omega) (by omega) (by omega) (by omega) (by omega) (by omega)).trans (p38bbbfr (k + 5) j (by omega) (by omega) (by omega) (by omega) (by omega) (by omega) (by omega))) (fun w j hj => (p68bbbbfr (k + 6) j (by omega) (by omega) (by omega) (by omega) (by omega) (by omega)).trans (p38bbbfr (k + 6) j (by omega) (by omega) (by omega) (by omega) (by omega) (by omega) (by omega))) (fun w j hj => (p68bbbbfr (k + 9) j (by omega) (by omega) (by omega) (by omega) (by omega) (by omega)).trans (p38bbbfr (k + 9) j (by omega) (by omega) (by omega) (by omega) (by omega) (by omega) (by omega))) (fun w j hj => p38bbbbfrL (k + 4) j (by omega)))
                   | (by_cases hz : tVz c n 0 ((tKd c (typ s + D) (tSk tSm c n (typ s + D))).toNat) (tSk tSm c n (typ s + D)) (tFv ((tKd c (typ s + D) (tSk tSm c n (typ s + D))).toNat) (tyx s)) = -1
                      · first
                        | (have y3 := p93bhok hz
                           have y2 : v93o = (tVp c n 0 ((tKd c (typ s + D) (tSk tSm c n (typ s + D))).toNat) (tSk tSm c n (typ s + D)) (tFv ((tKd c (typ s + D) (tSk tSm c n (typ s + D))).toNat) (tyx s))) ∧ True := ⟨y3.1, trivial⟩
                           have e1 : v93o.toNat = (tVp c n 0 ((tKd c (typ s + D) (tSk tSm c n (typ s + D))).toNat) (tSk tSm c n (typ s + D)) (tFv ((tKd c (typ s + D) (tSk tSm c n (typ s + D))).toNat) (tyx s))) := by omega
                           rw [e1] at p101hv
                           first
                           | (exfalso
                              rw [tyB_vn (show (tKd c (typ s + D) (tSk tSm c n (typ s + D))) ≠ 9 by omega) hz (by omega)] at h9
                              exact tyF_f h9)
                           | (rw [tyB_v (show (tKd c (typ s + D) (tSk tSm c n (typ s + D))) ≠ 9 by omega) hz (fun _ => by omega)]
                              exact ⟨zVO_O (I1 := I93o) (L1 := L93o) hs hg (a_ := ((tKd c (typ s + D) (tSk tSm c n (typ s + D))).toNat)) (by omega) (by omega) hDx.2.1 zxe (zxs (by omega) (zxs (by omega) (zxu (by omega) (zxu (by omega) ((p93bbfr k 22 (by omega) (by omega) (by omega) (by omega) (by omega)).trans ((p38bbbfr k 22 (by omega) (by omega) (by omega) (by omega) (by omega) (by omega) (by omega)).trans s22)))))) ((zxs (by omega) (zxs (by omega) (zxu (by omega) (zxu (by omega) ((p93bbfr k 16 (by omega) (by omega) (by omega) (by omega) (by omega)).trans ((p38bbbfr k 16 (by omega) (by omega) (by omega) (by omega) (by omega) (by omega) (by omega)).trans (s16 (hn0_ w38.1 (by omega))))))))).trans (tXx_f (by omega)).symm)
                        ⟨zxu (by omega) (zxu (by omega) (zxu (by omega) (zxe' (by omega)))), zxu (by omega) (zxu (by omega) ((zxe' (by omega)).trans (by omega)))⟩ (fun e he => ⟨zxu (by omega) (zxu (by omega) (zxu (by omega) (zxs (by omega) ((p93bbfr (k + 10) e (by omega) (by omega) (by omega) (by omega) (by omega)).trans (p38bbbfr (k + 10) e (by omega) (by omega) (by omega) (by omega) (by omega) (by omega) (by omega)))))), zxu (by omega) (zxu (by omega) (zxs (by omega) (zxu (by omega) ((p93bbfr (k + 11) e (by omega) (by omega) (by omega) (by omega) (by omega)).trans (p38bbbfr (k + 11) e (by omega) (by omega) (by omega) (by omega) (by omega) (by omega) (by omega))))))⟩)
                        (fun w => ⟨(p93bbfr (k + 2) _ (by omega) (by omega) (by omega) (by omega) (by omega)).trans ((p38bbhst (by omega) w).1.trans w38.2.1), (p93bbfr (k + 3) _ (by omega) (by omega) (by omega) (by omega) (by omega)).trans (g38b (by omega) w)⟩) (fun w _ => y3.2 w) (fun w i h1 h2 => (p93bbbfrL (k + 4) _ (by omega) (by omega)).trans (((p38bbhst (by omega) w).2.2.2.2 i h2).trans (by rw [w38.2.1]))) (fun w i h1 h2 => (p93bbfr (k + 5) _ (by omega) (by omega) (by omega) (by omega) (by omega)).trans ((p38bbhst (by omega) w).2.2.2.1 i h2))
                        (fun x j h1 h2 => zxu (by omega) (zxu (by omega) (zxu (by omega) (zxu (by omega) rfl)))) (fun j => rfl)
                        (fun w x j hx hj => (p93bbfr x j (by omega) (by omega) (by omega) (by omega) (by omega)).trans (p38bbbfr x j (by omega) (by omega) (by omega) (by omega) (by omega) (by omega) (by omega))) (fun w j hj => (p93bbfr (k + 5) j (by omega) (by omega) (by omega) (by omega) (by omega)).trans (p38bbbfr (k + 5) j (by omega) (by omega) (by omega) (by omega) (by omega) (by omega) (by omega))) (fun w j hj => (p93bbfr (k + 6) j (by omega) (by omega) (by omega) (by omega) (by omega)).trans (p38bbbfr (k + 6) j (by omega) (by omega) (by omega) (by omega) (by omega) (by omega) (by omega))) (fun w j hj => (p93bbfr (k + 9) j (by omega) (by omega) (by omega) (by omega) (by omega)).trans (p38bbbfr (k + 9) j (by omega) (by omega) (by omega) (by omega) (by omega) (by omega) (by omega))) (fun w j hj => (p93bbbfrL (k + 4) j (by omega) (by omega)).trans (p38bbbbfrL (k + 4) j (by omega))), (by rw [y2.1]; show _ = (((tVp c n 0 ((tKd c (typ s + D) (tSk tSm c n (typ s + D))).toNat) (tSk tSm c n (typ s + D)) (tFv ((tKd c (typ s + D) (tSk tSm c n (typ s + D))).toNat) (tyx s))) + (1 - 0) : Nat) : Int); omega), zxs (by omega) (zxe.trans (show _ = ((D + 1 : Nat) : Int) - 1 by omega))⟩))
                        | (have y2 := g81bb hz
                           have e1 : v81o.toNat = (tVp c n 0 ((tKd c (typ s + D) (tSk tSm c n (typ s + D))).toNat) (tSk tSm c n (typ s + D)) (tFv ((tKd c (typ s + D) (tSk tSm c n (typ s + D))).toNat) (tyx s))) := by omega
                           rw [e1] at p101hv
                           first
                           | (exfalso
                              rw [tyB_vn (show (tKd c (typ s + D) (tSk tSm c n (typ s + D))) ≠ 9 by omega) hz (by omega)] at h9
                              exact tyF_f h9)
                           | (rw [tyB_v (show (tKd c (typ s + D) (tSk tSm c n (typ s + D))) ≠ 9 by omega) hz (fun _ => by omega)]
                              exact ⟨zVO_O (I1 := I81o) (L1 := L81o) hs hg (a_ := ((tKd c (typ s + D) (tSk tSm c n (typ s + D))).toNat)) (by omega) (by omega) hDx.2.1 zxe (zxs (by omega) (zxs (by omega) (zxu (by omega) (zxu (by omega) ((p81bfr k 22 (by omega) (by omega)).trans ((p38bbbfr k 22 (by omega) (by omega) (by omega) (by omega) (by omega) (by omega) (by omega)).trans s22)))))) (zxs (by omega) (zxs (by omega) (zxu (by omega) (zxu (by omega) y2.2))))
                        ⟨zxu (by omega) (zxu (by omega) (zxu (by omega) (zxe' (by omega)))), zxu (by omega) (zxu (by omega) ((zxe' (by omega)).trans (by omega)))⟩ (fun e he => ⟨zxu (by omega) (zxu (by omega) (zxu (by omega) (zxs (by omega) ((p81bfr (k + 10) e (by omega) (by omega)).trans (p38bbbfr (k + 10) e (by omega) (by omega) (by omega) (by omega) (by omega) (by omega) (by omega)))))), zxu (by omega) (zxu (by omega) (zxs (by omega) (zxu (by omega) ((p81bfr (k + 11) e (by omega) (by omega)).trans (p38bbbfr (k + 11) e (by omega) (by omega) (by omega) (by omega) (by omega) (by omega) (by omega))))))⟩)
                        (fun w => ⟨(p81bfr (k + 2) _ (by omega) (by omega)).trans ((p38bbhst (by omega) w).1.trans w38.2.1), (p81bfr (k + 3) _ (by omega) (by omega)).trans (g38b (by omega) w)⟩) (fun w h => absurd (by omega) h) (fun w i h1 h2 => (p81bbfrL (k + 4) _ (by omega)).trans (((p38bbhst (by omega) w).2.2.2.2 i h2).trans (by rw [w38.2.1]))) (fun w i h1 h2 => (p81bfr (k + 5) _ (by omega) (by omega)).trans ((p38bbhst (by omega) w).2.2.2.1 i h2))
                        (fun x j h1 h2 => zxu (by omega) (zxu (by omega) (zxu (by omega) (zxu (by omega) rfl)))) (fun j => rfl)
                        (fun w x j hx hj => (p81bfr x j (by omega) (by omega)).trans (p38bbbfr x j (by omega) (by omega) (by omega) (by omega) (by omega) (by omega) (by omega))) (fun w j hj => (p81bfr (k + 5) j (by omega) (by omega)).trans (p38bbbfr (k + 5) j (by omega) (by omega) (by omega) (by omega) (by omega) (by omega) (by omega))) (fun w j hj => (p81bfr (k + 6) j (by omega) (by omega)).trans (p38bbbfr (k + 6) j (by omega) (by omega) (by omega) (by omega) (by omega) (by omega) (by omega))) (fun w j hj => (p81bfr (k + 9) j (by omega) (by omega)).trans (p38bbbfr (k + 9) j (by omega) (by omega) (by omega) (by omega) (by omega) (by omega) (by omega))) (fun w j hj => (p81bbfrL (k + 4) j (by omega)).trans (p38bbbbfrL (k + 4) j (by omega))), (by rw [y2.1]; show _ = (((tVp c n 0 ((tKd c (typ s + D) (tSk tSm c n (typ s + D))).toNat) (tSk tSm c n (typ s + D)) (tFv ((tKd c (typ s + D) (tSk tSm c n (typ s + D))).toNat) (tyx s))) + (1 - 0) : Nat) : Int); omega), zxs (by omega) (zxe.trans (show _ = ((D + 1 : Nat) : Int) - 1 by omega))⟩))
                      · exfalso
                        rw [tyB_vf hc em.2.1 (show (tKd c (typ s + D) (tSk tSm c n (typ s + D))) ≠ 9 by omega) hz] at h9
                        exact hz h9))
                | (exfalso; omega)
            · refine And.intro (zDX hD 0 rfl) (Exists.intro _ (And.intro (zinl_ok (zT20_9 4)) (And.intro rfl ?_)))
              refine And.intro (zDX hD 0 rfl) (zrd (v := (tVz c n 0 ((tKd c (typ s + D) (tSk tSm c n (typ s + D))).toNat) (tSk tSm c n (typ s + D)) (tFv ((tKd c (typ s + D) (tSk tSm c n (typ s + D))).toNat) (tyx s)))) g81b ?_)
              refine And.intro ⟨(by omega), (zRb rfl)⟩ ⟨fun h5_112 => ?_, fun h5_112 => ?_⟩
              · refine And.intro (zDX hD 0 rfl) (zrdR (v := some (k + 10)) (zDR hD 9 rfl) ?_)
                refine And.intro (zDX hD 0 rfl) (zrd (v := (tyn s)) ((p81bfr k 17 (by omega) (by omega)).trans ((p38bbbfr k 17 (by omega) (by omega) (by omega) (by omega) (by omega) (by omega) (by omega)).trans s17)) ?_)
                refine And.intro ⟨(by show 40 ≤ _; omega), (zDP hD 10 rfl rfl (by omega) (by omega))⟩ ⟨_, (zWi (by omega)), ?_⟩
                refine And.intro (zDX hD 0 rfl) (zrdR (v := some (k + 11)) (zDR hD 10 rfl) ?_)
                refine And.intro ⟨(by show 40 ≤ _; omega), (zDP hD 11 rfl rfl (by omega) (by omega))⟩ ⟨_, (zWi (by omega)), ?_⟩
                refine And.intro (zDX hD 0 rfl) ⟨_, (zWi (by omega)), ?_⟩
                refine And.intro (zDX hD 0 rfl) (zrd (v := (tyn s)) (zxs (by decide) (zxu (by omega) (zxu (by omega) ((p81bfr k 17 (by omega) (by omega)).trans ((p38bbbfr k 17 (by omega) (by omega) (by omega) (by omega) (by omega) (by omega) (by omega)).trans s17))))) ?_)
                refine And.intro (zDX hD 0 rfl) ⟨_, (zWi (by omega)), ?_⟩
                refine hQ _ _ _ ?_ ?_ (by omega) (fun c j h0 h1 h2 h3 h4 h5 h6 h7 h8 h9 h10 h11 h12 h13 h14 h15 => (zxcj h1 (zxcj h6 (zxu h15 (zxu h14 ((p81bfr c j h2 h0).trans ((p38bbbfr c j h2 h3 h4 (fun w => h7 ⟨w.1, w.2.1⟩) (fun w => h8 ⟨w.1, w.2.1⟩) (fun w => h12 ⟨w.1, w.2.1⟩) (fun w => h9 ⟨w.1, w.2.1⟩)).trans rfl))))))) (fun c j h0 h1 => ((p81bbfrL c j h0).trans ((p38bbbbfrL c j (fun w => h1 ⟨w.1, w.2.1⟩)).trans rfl)))
                · first
                  | (rw [tyA_nb hDD hDx.2.2.1 w38.1]
                     exact w38.2.2)
                  | (rw [tyA_y hDD hD46 hDx.2.2.1 w38.1]
                     have em := tSm_s hc w38.1.1
                     first
                     | (rw [tyB_9 (show (tKd c (typ s + D) (tSk tSm c n (typ s + D))) = 9 by omega), tkX_0]
                        exact p68hf)
                     | (by_cases hz : tVz c n 0 ((tKd c (typ s + D) (tSk tSm c n (typ s + D))).toNat) (tSk tSm c n (typ s + D)) (tFv ((tKd c (typ s + D) (tSk tSm c n (typ s + D))).toNat) (tyx s)) = -1
                        · first
                          | (have y2 := p93bhok hz
                             have e1 : v93o.toNat = (tVp c n 0 ((tKd c (typ s + D) (tSk tSm c n (typ s + D))).toNat) (tSk tSm c n (typ s + D)) (tFv ((tKd c (typ s + D) (tSk tSm c n (typ s + D))).toNat) (tyx s))) := by omega
                             rw [e1] at p101hv
                             first
                             | (rw [tyB_v (show (tKd c (typ s + D) (tSk tSm c n (typ s + D))) ≠ 9 by omega) hz (fun _ => by omega)]
                                exact zxs (by omega) (zxs (by omega) (zxu (by omega) (zxu (by omega) (p93hf.trans hz)))))
                             | (rw [tyB_vn (show (tKd c (typ s + D) (tSk tSm c n (typ s + D))) ≠ 9 by omega) hz (by omega)]
                                exact (zxs (by omega) (zxs (by omega) (zxu (by omega) (zxu (by omega) zxe)))).trans (show _ = (((tVp c n 0 ((tKd c (typ s + D) (tSk tSm c n (typ s + D))).toNat) (tSk tSm c n (typ s + D)) (tFv ((tKd c (typ s + D) (tSk tSm c n (typ s + D))).toNat) (tyx s))) : Nat) : Int) by omega)))
                          | (have y2 := g81bb hz
                             have e1 : v81o.toNat = (tVp c n 0 ((tKd c (typ s + D) (tSk tSm c n (typ s + D))).toNat) (tSk tSm c n (typ s + D)) (tFv ((tKd c (typ s + D) (tSk tSm c n (typ s + D))).toNat) (tyx s))) := by omega
                             rw [e1] at p101hv
                             first
                             | (rw [tyB_v (show (tKd c (typ s + D) (tSk tSm c n (typ s + D))) ≠ 9 by omega) hz (fun _ => by omega)]
                                exact zxs (by omega) (zxs (by omega) (zxu (by omega) (zxu (by omega) (g81b.trans hz)))))
                             | (rw [tyB_vn (show (tKd c (typ s + D) (tSk tSm c n (typ s + D))) ≠ 9 by omega) hz (by omega)]
                                exact (zxs (by omega) (zxs (by omega) (zxu (by omega) (zxu (by omega) zxe)))).trans (show _ = (((tVp c n 0 ((tKd c (typ s + D) (tSk tSm c n (typ s + D))).toNat) (tSk tSm c n (typ s + D)) (tFv ((tKd c (typ s + D) (tSk tSm c n (typ s + D))).toNat) (tyx s))) : Nat) : Int) by omega)))
                        · rw [tyB_vf hc em.2.1 (show (tKd c (typ s + D) (tSk tSm c n (typ s + D))) ≠ 9 by omega) hz]
                          first
                          | exact zxs (by omega) (zxs (by omega) (zxu (by omega) (zxu (by omega) p93hf)))
                          | exact zxs (by omega) (zxs (by omega) (zxu (by omega) (zxu (by omega) g81b)))
                          | (exfalso; omega)))
                  | (exfalso; omega)
                · intro h9
                  first
                  | (exfalso
                     rw [tyA_nb hDD hDx.2.2.1 w38.1] at h9
                     exact tyF_f h9)
                  | (rw [tyA_y hDD hD46 hDx.2.2.1 w38.1] at h9 ⊢
                     have em := tSm_s hc w38.1.1
                     first
                     | (have hx : tlX c n (typ s + D + 2000 - tyk s) D (tSk tSm c n (typ s + D)) = -1 := by
                          rw [tyB_9 (show (tKd c (typ s + D) (tSk tSm c n (typ s + D))) = 9 by omega), tkX_0] at h9
                          exact h9
                        have y2 := p68bhok hx
                        have eb := tlX_b hc hx
                        have e9 : v38o.toNat = 9 := by omega
                        rw [tyB_u (show (tKd c (typ s + D) (tSk tSm c n (typ s + D))) = 9 by omega) (tkX_0.trans hx), tkE_0]
                        refine ⟨?_, y2.1, (p68bbbbfr k 30 (by omega) (by omega) (by omega) (by omega) (by omega) (by omega)).trans ((p38bbbfr k 30 (by omega) (by omega) (by omega) (by omega) (by omega) (by omega) (by omega)).trans hls)⟩
                        exact zVO_U hs hg (by omega) (hn0_ w38.1 (by omega)) p68bbhfd9 y2.2.1 ((p68bbbbfr k 16 (by omega) (by omega) (by omega) (by omega) (by omega) (by omega)).trans (p38bbbfr k 16 (by omega) (by omega) (by omega) (by omega) (by omega) (by omega) (by omega))) (fun e => ⟨(p68bbbbfr (k + 10) e (by omega) (by omega) (by omega) (by omega) (by omega) (by omega)).trans (p38bbbfr (k + 10) e (by omega) (by omega) (by omega) (by omega) (by omega) (by omega) (by omega)), (p68bbbbfr (k + 11) e (by omega) (by omega) (by omega) (by omega) (by omega) (by omega)).trans (p38bbbfr (k + 11) e (by omega) (by omega) (by omega) (by omega) (by omega) (by omega) (by omega))⟩)
                          (fun w => ⟨(p68bbbbfr (k + 2) _ (by omega) (by omega) (by omega) (by omega) (by omega) (by omega)).trans ((p38bbhst (by omega) w).1.trans (by omega)), (p68bbbbfr (k + 3) _ (by omega) (by omega) (by omega) (by omega) (by omega) (by omega)).trans (g38b (by omega) w)⟩) y2.2.2 (fun w i hi => ((p38bbhst (by omega) w).2.2.2.2 i hi).trans (by rw [e9]))
                          (fun w x j hx hj => (p68bbbbfr x j (by omega) (by omega) (by omega) (by omega) (by omega) (by omega)).trans (p38bbbfr x j (by omega) (by omega) (by omega) (by omega) (by omega) (by omega) (by omega))) (fun w j hj => (p68bbbbfr (k + 5) j (by omega) (by omega) (by omega) (by omega) (by omega) (by omega)).trans (p38bbbfr (k + 5) j (by omega) (by omega) (by omega) (by omega) (by omega) (by omega) (by omega))) (fun w j hj => (p68bbbbfr (k + 6) j (by omega) (by omega) (by omega) (by omega) (by omega) (by omega)).trans (p38bbbfr (k + 6) j (by omega) (by omega) (by omega) (by omega) (by omega) (by omega) (by omega))) (fun w j hj => (p68bbbbfr (k + 9) j (by omega) (by omega) (by omega) (by omega) (by omega) (by omega)).trans (p38bbbfr (k + 9) j (by omega) (by omega) (by omega) (by omega) (by omega) (by omega) (by omega))) (fun w j hj => p38bbbbfrL (k + 4) j (by omega)))
                     | (by_cases hz : tVz c n 0 ((tKd c (typ s + D) (tSk tSm c n (typ s + D))).toNat) (tSk tSm c n (typ s + D)) (tFv ((tKd c (typ s + D) (tSk tSm c n (typ s + D))).toNat) (tyx s)) = -1
                        · first
                          | (have y3 := p93bhok hz
                             have y2 : v93o = (tVp c n 0 ((tKd c (typ s + D) (tSk tSm c n (typ s + D))).toNat) (tSk tSm c n (typ s + D)) (tFv ((tKd c (typ s + D) (tSk tSm c n (typ s + D))).toNat) (tyx s))) ∧ True := ⟨y3.1, trivial⟩
                             have e1 : v93o.toNat = (tVp c n 0 ((tKd c (typ s + D) (tSk tSm c n (typ s + D))).toNat) (tSk tSm c n (typ s + D)) (tFv ((tKd c (typ s + D) (tSk tSm c n (typ s + D))).toNat) (tyx s))) := by omega
                             rw [e1] at p101hv
                             first
                             | (exfalso
                                rw [tyB_vn (show (tKd c (typ s + D) (tSk tSm c n (typ s + D))) ≠ 9 by omega) hz (by omega)] at h9
                                exact tyF_f h9)
                             | (rw [tyB_v (show (tKd c (typ s + D) (tSk tSm c n (typ s + D))) ≠ 9 by omega) hz (fun _ => by omega)]
                                exact ⟨zVO_O (I1 := I93o) (L1 := L93o) hs hg (a_ := ((tKd c (typ s + D) (tSk tSm c n (typ s + D))).toNat)) (by omega) (by omega) hDx.2.1 zxe (zxs (by omega) (zxs (by omega) (zxu (by omega) (zxu (by omega) ((p93bbfr k 22 (by omega) (by omega) (by omega) (by omega) (by omega)).trans ((p38bbbfr k 22 (by omega) (by omega) (by omega) (by omega) (by omega) (by omega) (by omega)).trans s22)))))) ((zxs (by omega) (zxs (by omega) (zxu (by omega) (zxu (by omega) ((p93bbfr k 16 (by omega) (by omega) (by omega) (by omega) (by omega)).trans ((p38bbbfr k 16 (by omega) (by omega) (by omega) (by omega) (by omega) (by omega) (by omega)).trans (s16 (hn0_ w38.1 (by omega))))))))).trans (tXx_f (by omega)).symm)
                          ⟨zxu (by omega) (zxu (by omega) (zxu (by omega) (zxe' (by omega)))), zxu (by omega) (zxu (by omega) ((zxe' (by omega)).trans (by omega)))⟩ (fun e he => ⟨zxu (by omega) (zxu (by omega) (zxu (by omega) (zxs (by omega) ((p93bbfr (k + 10) e (by omega) (by omega) (by omega) (by omega) (by omega)).trans (p38bbbfr (k + 10) e (by omega) (by omega) (by omega) (by omega) (by omega) (by omega) (by omega)))))), zxu (by omega) (zxu (by omega) (zxs (by omega) (zxu (by omega) ((p93bbfr (k + 11) e (by omega) (by omega) (by omega) (by omega) (by omega)).trans (p38bbbfr (k + 11) e (by omega) (by omega) (by omega) (by omega) (by omega) (by omega) (by omega))))))⟩)
                          (fun w => ⟨(p93bbfr (k + 2) _ (by omega) (by omega) (by omega) (by omega) (by omega)).trans ((p38bbhst (by omega) w).1.trans w38.2.1), (p93bbfr (k + 3) _ (by omega) (by omega) (by omega) (by omega) (by omega)).trans (g38b (by omega) w)⟩) (fun w _ => y3.2 w) (fun w i h1 h2 => (p93bbbfrL (k + 4) _ (by omega) (by omega)).trans (((p38bbhst (by omega) w).2.2.2.2 i h2).trans (by rw [w38.2.1]))) (fun w i h1 h2 => (p93bbfr (k + 5) _ (by omega) (by omega) (by omega) (by omega) (by omega)).trans ((p38bbhst (by omega) w).2.2.2.1 i h2))
                          (fun x j h1 h2 => zxu (by omega) (zxu (by omega) (zxu (by omega) (zxu (by omega) rfl)))) (fun j => rfl)
                          (fun w x j hx hj => (p93bbfr x j (by omega) (by omega) (by omega) (by omega) (by omega)).trans (p38bbbfr x j (by omega) (by omega) (by omega) (by omega) (by omega) (by omega) (by omega))) (fun w j hj => (p93bbfr (k + 5) j (by omega) (by omega) (by omega) (by omega) (by omega)).trans (p38bbbfr (k + 5) j (by omega) (by omega) (by omega) (by omega) (by omega) (by omega) (by omega))) (fun w j hj => (p93bbfr (k + 6) j (by omega) (by omega) (by omega) (by omega) (by omega)).trans (p38bbbfr (k + 6) j (by omega) (by omega) (by omega) (by omega) (by omega) (by omega) (by omega))) (fun w j hj => (p93bbfr (k + 9) j (by omega) (by omega) (by omega) (by omega) (by omega)).trans (p38bbbfr (k + 9) j (by omega) (by omega) (by omega) (by omega) (by omega) (by omega) (by omega))) (fun w j hj => (p93bbbfrL (k + 4) j (by omega) (by omega)).trans (p38bbbbfrL (k + 4) j (by omega))), (by rw [y2.1]; show _ = (((tVp c n 0 ((tKd c (typ s + D) (tSk tSm c n (typ s + D))).toNat) (tSk tSm c n (typ s + D)) (tFv ((tKd c (typ s + D) (tSk tSm c n (typ s + D))).toNat) (tyx s))) + (1 - 0) : Nat) : Int); omega), zxs (by omega) (zxe.trans (show _ = ((D + 1 : Nat) : Int) - 1 by omega))⟩))
                          | (have y2 := g81bb hz
                             have e1 : v81o.toNat = (tVp c n 0 ((tKd c (typ s + D) (tSk tSm c n (typ s + D))).toNat) (tSk tSm c n (typ s + D)) (tFv ((tKd c (typ s + D) (tSk tSm c n (typ s + D))).toNat) (tyx s))) := by omega
                             rw [e1] at p101hv
                             first
                             | (exfalso
                                rw [tyB_vn (show (tKd c (typ s + D) (tSk tSm c n (typ s + D))) ≠ 9 by omega) hz (by omega)] at h9
                                exact tyF_f h9)
                             | (rw [tyB_v (show (tKd c (typ s + D) (tSk tSm c n (typ s + D))) ≠ 9 by omega) hz (fun _ => by omega)]
                                exact ⟨zVO_O (I1 := I81o) (L1 := L81o) hs hg (a_ := ((tKd c (typ s + D) (tSk tSm c n (typ s + D))).toNat)) (by omega) (by omega) hDx.2.1 zxe (zxs (by omega) (zxs (by omega) (zxu (by omega) (zxu (by omega) ((p81bfr k 22 (by omega) (by omega)).trans ((p38bbbfr k 22 (by omega) (by omega) (by omega) (by omega) (by omega) (by omega) (by omega)).trans s22)))))) (zxs (by omega) (zxs (by omega) (zxu (by omega) (zxu (by omega) y2.2))))
                          ⟨zxu (by omega) (zxu (by omega) (zxu (by omega) (zxe' (by omega)))), zxu (by omega) (zxu (by omega) ((zxe' (by omega)).trans (by omega)))⟩ (fun e he => ⟨zxu (by omega) (zxu (by omega) (zxu (by omega) (zxs (by omega) ((p81bfr (k + 10) e (by omega) (by omega)).trans (p38bbbfr (k + 10) e (by omega) (by omega) (by omega) (by omega) (by omega) (by omega) (by omega)))))), zxu (by omega) (zxu (by omega) (zxs (by omega) (zxu (by omega) ((p81bfr (k + 11) e (by omega) (by omega)).trans (p38bbbfr (k + 11) e (by omega) (by omega) (by omega) (by omega) (by omega) (by omega) (by omega))))))⟩)
                          (fun w => ⟨(p81bfr (k + 2) _ (by omega) (by omega)).trans ((p38bbhst (by omega) w).1.trans w38.2.1), (p81bfr (k + 3) _ (by omega) (by omega)).trans (g38b (by omega) w)⟩) (fun w h => absurd (by omega) h) (fun w i h1 h2 => (p81bbfrL (k + 4) _ (by omega)).trans (((p38bbhst (by omega) w).2.2.2.2 i h2).trans (by rw [w38.2.1]))) (fun w i h1 h2 => (p81bfr (k + 5) _ (by omega) (by omega)).trans ((p38bbhst (by omega) w).2.2.2.1 i h2))
                          (fun x j h1 h2 => zxu (by omega) (zxu (by omega) (zxu (by omega) (zxu (by omega) rfl)))) (fun j => rfl)
                          (fun w x j hx hj => (p81bfr x j (by omega) (by omega)).trans (p38bbbfr x j (by omega) (by omega) (by omega) (by omega) (by omega) (by omega) (by omega))) (fun w j hj => (p81bfr (k + 5) j (by omega) (by omega)).trans (p38bbbfr (k + 5) j (by omega) (by omega) (by omega) (by omega) (by omega) (by omega) (by omega))) (fun w j hj => (p81bfr (k + 6) j (by omega) (by omega)).trans (p38bbbfr (k + 6) j (by omega) (by omega) (by omega) (by omega) (by omega) (by omega) (by omega))) (fun w j hj => (p81bfr (k + 9) j (by omega) (by omega)).trans (p38bbbfr (k + 9) j (by omega) (by omega) (by omega) (by omega) (by omega) (by omega) (by omega))) (fun w j hj => (p81bbfrL (k + 4) j (by omega)).trans (p38bbbbfrL (k + 4) j (by omega))), (by rw [y2.1]; show _ = (((tVp c n 0 ((tKd c (typ s + D) (tSk tSm c n (typ s + D))).toNat) (tSk tSm c n (typ s + D)) (tFv ((tKd c (typ s + D) (tSk tSm c n (typ s + D))).toNat) (tyx s))) + (1 - 0) : Nat) : Int); omega), zxs (by omega) (zxe.trans (show _ = ((D + 1 : Nat) : Int) - 1 by omega))⟩))
                        · exfalso
                          rw [tyB_vf hc em.2.1 (show (tKd c (typ s + D) (tSk tSm c n (typ s + D))) ≠ 9 by omega) hz] at h9
                          exact hz h9))
                  | (exfalso; omega)
              · refine And.intro (zDX hD 0 rfl) ⟨_, (zWi (by omega)), ?_⟩
                refine And.intro (zDX hD 0 rfl) (zrdR (v := some (k + 10)) (zDR hD 9 rfl) ?_)
                refine And.intro (zDX hD 0 rfl) (zrd (v := (tyn s)) (zxs (by decide) ((p81bfr k 17 (by omega) (by omega)).trans ((p38bbbfr k 17 (by omega) (by omega) (by omega) (by omega) (by omega) (by omega) (by omega)).trans s17))) ?_)
                refine And.intro ⟨(by show 40 ≤ _; omega), (zDP hD 10 rfl rfl (by omega) (by omega))⟩ ⟨_, (zWi (by omega)), ?_⟩
                refine And.intro (zDX hD 0 rfl) (zrdR (v := some (k + 11)) (zDR hD 10 rfl) ?_)
                refine And.intro ⟨(by show 40 ≤ _; omega), (zDP hD 11 rfl rfl (by omega) (by omega))⟩ ⟨_, (zWi (by omega)), ?_⟩
                refine And.intro (zDX hD 0 rfl) ⟨_, (zWi (by omega)), ?_⟩
                refine And.intro (zDX hD 0 rfl) (zrd (v := (tyn s)) (zxs (by decide) (zxu (by omega) (zxu (by omega) (zxs (by decide) ((p81bfr k 17 (by omega) (by omega)).trans ((p38bbbfr k 17 (by omega) (by omega) (by omega) (by omega) (by omega) (by omega) (by omega)).trans s17)))))) ?_)
                refine And.intro (zDX hD 0 rfl) ⟨_, (zWi (by omega)), ?_⟩
                refine hQ _ _ _ ?_ ?_ (by omega) (fun c j h0 h1 h2 h3 h4 h5 h6 h7 h8 h9 h10 h11 h12 h13 h14 h15 => (zxcj h1 (zxcj h6 (zxu h15 (zxu h14 (zxcj h2 ((p81bfr c j h2 h0).trans ((p38bbbfr c j h2 h3 h4 (fun w => h7 ⟨w.1, w.2.1⟩) (fun w => h8 ⟨w.1, w.2.1⟩) (fun w => h12 ⟨w.1, w.2.1⟩) (fun w => h9 ⟨w.1, w.2.1⟩)).trans rfl)))))))) (fun c j h0 h1 => ((p81bbfrL c j h0).trans ((p38bbbbfrL c j (fun w => h1 ⟨w.1, w.2.1⟩)).trans rfl)))
                · first
                  | (rw [tyA_nb hDD hDx.2.2.1 w38.1]
                     exact w38.2.2)
                  | (rw [tyA_y hDD hD46 hDx.2.2.1 w38.1]
                     have em := tSm_s hc w38.1.1
                     first
                     | (rw [tyB_9 (show (tKd c (typ s + D) (tSk tSm c n (typ s + D))) = 9 by omega), tkX_0]
                        exact p68hf)
                     | (by_cases hz : tVz c n 0 ((tKd c (typ s + D) (tSk tSm c n (typ s + D))).toNat) (tSk tSm c n (typ s + D)) (tFv ((tKd c (typ s + D) (tSk tSm c n (typ s + D))).toNat) (tyx s)) = -1
                        · first
                          | (have y2 := p93bhok hz
                             have e1 : v93o.toNat = (tVp c n 0 ((tKd c (typ s + D) (tSk tSm c n (typ s + D))).toNat) (tSk tSm c n (typ s + D)) (tFv ((tKd c (typ s + D) (tSk tSm c n (typ s + D))).toNat) (tyx s))) := by omega
                             rw [e1] at p101hv
                             first
                             | (rw [tyB_v (show (tKd c (typ s + D) (tSk tSm c n (typ s + D))) ≠ 9 by omega) hz (fun _ => by omega)]
                                exact zxs (by omega) (zxs (by omega) (zxu (by omega) (zxu (by omega) (p93hf.trans hz)))))
                             | (rw [tyB_vn (show (tKd c (typ s + D) (tSk tSm c n (typ s + D))) ≠ 9 by omega) hz (by omega)]
                                exact (zxs (by omega) (zxs (by omega) (zxu (by omega) (zxu (by omega) zxe)))).trans (show _ = (((tVp c n 0 ((tKd c (typ s + D) (tSk tSm c n (typ s + D))).toNat) (tSk tSm c n (typ s + D)) (tFv ((tKd c (typ s + D) (tSk tSm c n (typ s + D))).toNat) (tyx s))) : Nat) : Int) by omega)))
                          | (have y2 := g81bb hz
                             have e1 : v81o.toNat = (tVp c n 0 ((tKd c (typ s + D) (tSk tSm c n (typ s + D))).toNat) (tSk tSm c n (typ s + D)) (tFv ((tKd c (typ s + D) (tSk tSm c n (typ s + D))).toNat) (tyx s))) := by omega
                             rw [e1] at p101hv
                             first
                             | (rw [tyB_v (show (tKd c (typ s + D) (tSk tSm c n (typ s + D))) ≠ 9 by omega) hz (fun _ => by omega)]
                                exact zxs (by omega) (zxs (by omega) (zxu (by omega) (zxu (by omega) (g81b.trans hz)))))
                             | (rw [tyB_vn (show (tKd c (typ s + D) (tSk tSm c n (typ s + D))) ≠ 9 by omega) hz (by omega)]
                                exact (zxs (by omega) (zxs (by omega) (zxu (by omega) (zxu (by omega) zxe)))).trans (show _ = (((tVp c n 0 ((tKd c (typ s + D) (tSk tSm c n (typ s + D))).toNat) (tSk tSm c n (typ s + D)) (tFv ((tKd c (typ s + D) (tSk tSm c n (typ s + D))).toNat) (tyx s))) : Nat) : Int) by omega)))
                        · rw [tyB_vf hc em.2.1 (show (tKd c (typ s + D) (tSk tSm c n (typ s + D))) ≠ 9 by omega) hz]
                          first
                          | exact zxs (by omega) (zxs (by omega) (zxu (by omega) (zxu (by omega) p93hf)))
                          | exact zxs (by omega) (zxs (by omega) (zxu (by omega) (zxu (by omega) g81b)))
                          | (exfalso; omega)))
                  | (exfalso; omega)
                · intro h9
                  first
                  | (exfalso
                     rw [tyA_nb hDD hDx.2.2.1 w38.1] at h9
                     exact tyF_f h9)
                  | (rw [tyA_y hDD hD46 hDx.2.2.1 w38.1] at h9 ⊢
                     have em := tSm_s hc w38.1.1
                     first
                     | (have hx : tlX c n (typ s + D + 2000 - tyk s) D (tSk tSm c n (typ s + D)) = -1 := by
                          rw [tyB_9 (show (tKd c (typ s + D) (tSk tSm c n (typ s + D))) = 9 by omega), tkX_0] at h9
                          exact h9
                        have y2 := p68bhok hx
                        have eb := tlX_b hc hx
                        have e9 : v38o.toNat = 9 := by omega
                        rw [tyB_u (show (tKd c (typ s + D) (tSk tSm c n (typ s + D))) = 9 by omega) (tkX_0.trans hx), tkE_0]
                        refine ⟨?_, y2.1, (p68bbbbfr k 30 (by omega) (by omega) (by omega) (by omega) (by omega) (by omega)).trans ((p38bbbfr k 30 (by omega) (by omega) (by omega) (by omega) (by omega) (by omega) (by omega)).trans hls)⟩
                        exact zVO_U hs hg (by omega) (hn0_ w38.1 (by omega)) p68bbhfd9 y2.2.1 ((p68bbbbfr k 16 (by omega) (by omega) (by omega) (by omega) (by omega) (by omega)).trans (p38bbbfr k 16 (by omega) (by omega) (by omega) (by omega) (by omega) (by omega) (by omega))) (fun e => ⟨(p68bbbbfr (k + 10) e (by omega) (by omega) (by omega) (by omega) (by omega) (by omega)).trans (p38bbbfr (k + 10) e (by omega) (by omega) (by omega) (by omega) (by omega) (by omega) (by omega)), (p68bbbbfr (k + 11) e (by omega) (by omega) (by omega) (by omega) (by omega) (by omega)).trans (p38bbbfr (k + 11) e (by omega) (by omega) (by omega) (by omega) (by omega) (by omega) (by omega))⟩)
                          (fun w => ⟨(p68bbbbfr (k + 2) _ (by omega) (by omega) (by omega) (by omega) (by omega) (by omega)).trans ((p38bbhst (by omega) w).1.trans (by omega)), (p68bbbbfr (k + 3) _ (by omega) (by omega) (by omega) (by omega) (by omega) (by omega)).trans (g38b (by omega) w)⟩) y2.2.2 (fun w i hi => ((p38bbhst (by omega) w).2.2.2.2 i hi).trans (by rw [e9]))
                          (fun w x j hx hj => (p68bbbbfr x j (by omega) (by omega) (by omega) (by omega) (by omega) (by omega)).trans (p38bbbfr x j (by omega) (by omega) (by omega) (by omega) (by omega) (by omega) (by omega))) (fun w j hj => (p68bbbbfr (k + 5) j (by omega) (by omega) (by omega) (by omega) (by omega) (by omega)).trans (p38bbbfr (k + 5) j (by omega) (by omega) (by omega) (by omega) (by omega) (by omega) (by omega))) (fun w j hj => (p68bbbbfr (k + 6) j (by omega) (by omega) (by omega) (by omega) (by omega) (by omega)).trans (p38bbbfr (k + 6) j (by omega) (by omega) (by omega) (by omega) (by omega) (by omega) (by omega))) (fun w j hj => (p68bbbbfr (k + 9) j (by omega) (by omega) (by omega) (by omega) (by omega) (by omega)).trans (p38bbbfr (k + 9) j (by omega) (by omega) (by omega) (by omega) (by omega) (by omega) (by omega))) (fun w j hj => p38bbbbfrL (k + 4) j (by omega)))
                     | (by_cases hz : tVz c n 0 ((tKd c (typ s + D) (tSk tSm c n (typ s + D))).toNat) (tSk tSm c n (typ s + D)) (tFv ((tKd c (typ s + D) (tSk tSm c n (typ s + D))).toNat) (tyx s)) = -1
                        · first
                          | (have y3 := p93bhok hz
                             have y2 : v93o = (tVp c n 0 ((tKd c (typ s + D) (tSk tSm c n (typ s + D))).toNat) (tSk tSm c n (typ s + D)) (tFv ((tKd c (typ s + D) (tSk tSm c n (typ s + D))).toNat) (tyx s))) ∧ True := ⟨y3.1, trivial⟩
                             have e1 : v93o.toNat = (tVp c n 0 ((tKd c (typ s + D) (tSk tSm c n (typ s + D))).toNat) (tSk tSm c n (typ s + D)) (tFv ((tKd c (typ s + D) (tSk tSm c n (typ s + D))).toNat) (tyx s))) := by omega
                             rw [e1] at p101hv
                             first
                             | (exfalso
                                rw [tyB_vn (show (tKd c (typ s + D) (tSk tSm c n (typ s + D))) ≠ 9 by omega) hz (by omega)] at h9
                                exact tyF_f h9)
                             | (rw [tyB_v (show (tKd c (typ s + D) (tSk tSm c n (typ s + D))) ≠ 9 by omega) hz (fun _ => by omega)]
                                exact ⟨zVO_O (I1 := I93o) (L1 := L93o) hs hg (a_ := ((tKd c (typ s + D) (tSk tSm c n (typ s + D))).toNat)) (by omega) (by omega) hDx.2.1 zxe (zxs (by omega) (zxs (by omega) (zxu (by omega) (zxu (by omega) ((p93bbfr k 22 (by omega) (by omega) (by omega) (by omega) (by omega)).trans ((p38bbbfr k 22 (by omega) (by omega) (by omega) (by omega) (by omega) (by omega) (by omega)).trans s22)))))) ((zxs (by omega) (zxs (by omega) (zxu (by omega) (zxu (by omega) ((p93bbfr k 16 (by omega) (by omega) (by omega) (by omega) (by omega)).trans ((p38bbbfr k 16 (by omega) (by omega) (by omega) (by omega) (by omega) (by omega) (by omega)).trans (s16 (hn0_ w38.1 (by omega))))))))).trans (tXx_f (by omega)).symm)
                          ⟨zxu (by omega) (zxu (by omega) (zxu (by omega) (zxe' (by omega)))), zxu (by omega) (zxu (by omega) ((zxe' (by omega)).trans (by omega)))⟩ (fun e he => ⟨zxu (by omega) (zxu (by omega) (zxu (by omega) (zxs (by omega) ((p93bbfr (k + 10) e (by omega) (by omega) (by omega) (by omega) (by omega)).trans (p38bbbfr (k + 10) e (by omega) (by omega) (by omega) (by omega) (by omega) (by omega) (by omega)))))), zxu (by omega) (zxu (by omega) (zxs (by omega) (zxu (by omega) ((p93bbfr (k + 11) e (by omega) (by omega) (by omega) (by omega) (by omega)).trans (p38bbbfr (k + 11) e (by omega) (by omega) (by omega) (by omega) (by omega) (by omega) (by omega))))))⟩)
                          (fun w => ⟨(p93bbfr (k + 2) _ (by omega) (by omega) (by omega) (by omega) (by omega)).trans ((p38bbhst (by omega) w).1.trans w38.2.1), (p93bbfr (k + 3) _ (by omega) (by omega) (by omega) (by omega) (by omega)).trans (g38b (by omega) w)⟩) (fun w _ => y3.2 w) (fun w i h1 h2 => (p93bbbfrL (k + 4) _ (by omega) (by omega)).trans (((p38bbhst (by omega) w).2.2.2.2 i h2).trans (by rw [w38.2.1]))) (fun w i h1 h2 => (p93bbfr (k + 5) _ (by omega) (by omega) (by omega) (by omega) (by omega)).trans ((p38bbhst (by omega) w).2.2.2.1 i h2))
                          (fun x j h1 h2 => zxu (by omega) (zxu (by omega) (zxu (by omega) (zxu (by omega) rfl)))) (fun j => rfl)
                          (fun w x j hx hj => (p93bbfr x j (by omega) (by omega) (by omega) (by omega) (by omega)).trans (p38bbbfr x j (by omega) (by omega) (by omega) (by omega) (by omega) (by omega) (by omega))) (fun w j hj => (p93bbfr (k + 5) j (by omega) (by omega) (by omega) (by omega) (by omega)).trans (p38bbbfr (k + 5) j (by omega) (by omega) (by omega) (by omega) (by omega) (by omega) (by omega))) (fun w j hj => (p93bbfr (k + 6) j (by omega) (by omega) (by omega) (by omega) (by omega)).trans (p38bbbfr (k + 6) j (by omega) (by omega) (by omega) (by omega) (by omega) (by omega) (by omega))) (fun w j hj => (p93bbfr (k + 9) j (by omega) (by omega) (by omega) (by omega) (by omega)).trans (p38bbbfr (k + 9) j (by omega) (by omega) (by omega) (by omega) (by omega) (by omega) (by omega))) (fun w j hj => (p93bbbfrL (k + 4) j (by omega) (by omega)).trans (p38bbbbfrL (k + 4) j (by omega))), (by rw [y2.1]; show _ = (((tVp c n 0 ((tKd c (typ s + D) (tSk tSm c n (typ s + D))).toNat) (tSk tSm c n (typ s + D)) (tFv ((tKd c (typ s + D) (tSk tSm c n (typ s + D))).toNat) (tyx s))) + (1 - 0) : Nat) : Int); omega), zxs (by omega) (zxe.trans (show _ = ((D + 1 : Nat) : Int) - 1 by omega))⟩))
                          | (have y2 := g81bb hz
                             have e1 : v81o.toNat = (tVp c n 0 ((tKd c (typ s + D) (tSk tSm c n (typ s + D))).toNat) (tSk tSm c n (typ s + D)) (tFv ((tKd c (typ s + D) (tSk tSm c n (typ s + D))).toNat) (tyx s))) := by omega
                             rw [e1] at p101hv
                             first
                             | (exfalso
                                rw [tyB_vn (show (tKd c (typ s + D) (tSk tSm c n (typ s + D))) ≠ 9 by omega) hz (by omega)] at h9
                                exact tyF_f h9)
                             | (rw [tyB_v (show (tKd c (typ s + D) (tSk tSm c n (typ s + D))) ≠ 9 by omega) hz (fun _ => by omega)]
                                exact ⟨zVO_O (I1 := I81o) (L1 := L81o) hs hg (a_ := ((tKd c (typ s + D) (tSk tSm c n (typ s + D))).toNat)) (by omega) (by omega) hDx.2.1 zxe (zxs (by omega) (zxs (by omega) (zxu (by omega) (zxu (by omega) ((p81bfr k 22 (by omega) (by omega)).trans ((p38bbbfr k 22 (by omega) (by omega) (by omega) (by omega) (by omega) (by omega) (by omega)).trans s22)))))) (zxs (by omega) (zxs (by omega) (zxu (by omega) (zxu (by omega) y2.2))))
                          ⟨zxu (by omega) (zxu (by omega) (zxu (by omega) (zxe' (by omega)))), zxu (by omega) (zxu (by omega) ((zxe' (by omega)).trans (by omega)))⟩ (fun e he => ⟨zxu (by omega) (zxu (by omega) (zxu (by omega) (zxs (by omega) ((p81bfr (k + 10) e (by omega) (by omega)).trans (p38bbbfr (k + 10) e (by omega) (by omega) (by omega) (by omega) (by omega) (by omega) (by omega)))))), zxu (by omega) (zxu (by omega) (zxs (by omega) (zxu (by omega) ((p81bfr (k + 11) e (by omega) (by omega)).trans (p38bbbfr (k + 11) e (by omega) (by omega) (by omega) (by omega) (by omega) (by omega) (by omega))))))⟩)
                          (fun w => ⟨(p81bfr (k + 2) _ (by omega) (by omega)).trans ((p38bbhst (by omega) w).1.trans w38.2.1), (p81bfr (k + 3) _ (by omega) (by omega)).trans (g38b (by omega) w)⟩) (fun w h => absurd (by omega) h) (fun w i h1 h2 => (p81bbfrL (k + 4) _ (by omega)).trans (((p38bbhst (by omega) w).2.2.2.2 i h2).trans (by rw [w38.2.1]))) (fun w i h1 h2 => (p81bfr (k + 5) _ (by omega) (by omega)).trans ((p38bbhst (by omega) w).2.2.2.1 i h2))
                          (fun x j h1 h2 => zxu (by omega) (zxu (by omega) (zxu (by omega) (zxu (by omega) rfl)))) (fun j => rfl)
                          (fun w x j hx hj => (p81bfr x j (by omega) (by omega)).trans (p38bbbfr x j (by omega) (by omega) (by omega) (by omega) (by omega) (by omega) (by omega))) (fun w j hj => (p81bfr (k + 5) j (by omega) (by omega)).trans (p38bbbfr (k + 5) j (by omega) (by omega) (by omega) (by omega) (by omega) (by omega) (by omega))) (fun w j hj => (p81bfr (k + 6) j (by omega) (by omega)).trans (p38bbbfr (k + 6) j (by omega) (by omega) (by omega) (by omega) (by omega) (by omega) (by omega))) (fun w j hj => (p81bfr (k + 9) j (by omega) (by omega)).trans (p38bbbfr (k + 9) j (by omega) (by omega) (by omega) (by omega) (by omega) (by omega) (by omega))) (fun w j hj => (p81bbfrL (k + 4) j (by omega)).trans (p38bbbbfrL (k + 4) j (by omega))), (by rw [y2.1]; show _ = (((tVp c n 0 ((tKd c (typ s + D) (tSk tSm c n (typ s + D))).toNat) (tSk tSm c n (typ s + D)) (tFv ((tKd c (typ s + D) (tSk tSm c n (typ s + D))).toNat) (tyx s))) + (1 - 0) : Nat) : Int); omega), zxs (by omega) (zxe.trans (show _ = ((D + 1 : Nat) : Int) - 1 by omega))⟩))
                        · exfalso
                          rw [tyB_vf hc em.2.1 (show (tKd c (typ s + D) (tSk tSm c n (typ s + D))) ≠ 9 by omega) hz] at h9
                          exact hz h9))
                  | (exfalso; omega)
        · refine And.intro (zDX hD 0 rfl) ⟨_, sn_V_unk.up (by decide), ?_⟩
          refine ⟨_, _, _, mk, (tyn s), (typ s + D + 2000 - tyk s), (tSk tSm c n (typ s + D)), (tyk s), ((p + d) : Int), (typ s + D), (d : Int), D, rfl, hD, (by first | exact (zRM_fr hX (fun c j h => ((p38bbbfr c j (by omega) (by omega) (by omega) (by omega) (by omega) (by omega) (by omega)).trans rfl))) | (clear hQ; grind [xu])), (by first | exact hc | (clear hQ; grind [xu])), ((p38bbbfr k 15 (by omega) (by omega) (by omega) (by omega) (by omega) (by omega) (by omega)).trans hmk), (by omega), ((p38bbbfr k 17 (by omega) (by omega) (by omega) (by omega) (by omega) (by omega) (by omega)).trans s17), (by omega), ⟨by omega, by omega⟩, (by omega), (by omega), (tSk_sp (P := tSm) (p := (typ s + D)) hc tSm_no).2.2.1, (by omega), ((p38bbbfr k 22 (by omega) (by omega) (by omega) (by omega) (by omega) (by omega) (by omega)).trans s22), (by omega), (fun e => (p38bbhst (by omega) e).2.2.1), (Eq.trans (b := ((-1) : Int)) w38.2.2.1 (by omega)), ?_⟩
          intro v68o I68o p68hf p68bhok p68bbhfd9 p68bbbhvb p68bbbbfr
          refine hQ _ _ _ ?_ ?_ (by omega) (fun c j h0 h1 h2 h3 h4 h5 h6 h7 h8 h9 h10 h11 h12 h13 h14 h15 => ((p68bbbbfr c j h1 h2 h5 (fun w => h11 ⟨w.1, w.2.1⟩) (fun w => h12 ⟨w.1, w.2.1⟩) (fun w => h13 ⟨w.1, w.2.1⟩)).trans ((p38bbbfr c j h2 h3 h4 (fun w => h7 ⟨w.1, w.2.1⟩) (fun w => h8 ⟨w.1, w.2.1⟩) (fun w => h12 ⟨w.1, w.2.1⟩) (fun w => h9 ⟨w.1, w.2.1⟩)).trans rfl))) (fun c j h0 h1 => ((p38bbbbfrL c j (fun w => h1 ⟨w.1, w.2.1⟩)).trans rfl))
          · first
            | (rw [tyA_nb hDD hDx.2.2.1 w38.1]
               exact w38.2.2)
            | (rw [tyA_y hDD hD46 hDx.2.2.1 w38.1]
               have em := tSm_s hc w38.1.1
               first
               | (rw [tyB_9 (show (tKd c (typ s + D) (tSk tSm c n (typ s + D))) = 9 by omega), tkX_0]
                  exact p68hf)
               | (by_cases hz : tVz c n 0 ((tKd c (typ s + D) (tSk tSm c n (typ s + D))).toNat) (tSk tSm c n (typ s + D)) (tFv ((tKd c (typ s + D) (tSk tSm c n (typ s + D))).toNat) (tyx s)) = -1
                  · first
                    | (have y2 := p93bhok hz
                       have e1 : v93o.toNat = (tVp c n 0 ((tKd c (typ s + D) (tSk tSm c n (typ s + D))).toNat) (tSk tSm c n (typ s + D)) (tFv ((tKd c (typ s + D) (tSk tSm c n (typ s + D))).toNat) (tyx s))) := by omega
                       rw [e1] at p101hv
                       first
                       | (rw [tyB_v (show (tKd c (typ s + D) (tSk tSm c n (typ s + D))) ≠ 9 by omega) hz (fun _ => by omega)]
                          exact zxs (by omega) (zxs (by omega) (zxu (by omega) (zxu (by omega) (p93hf.trans hz)))))
                       | (rw [tyB_vn (show (tKd c (typ s + D) (tSk tSm c n (typ s + D))) ≠ 9 by omega) hz (by omega)]
                          exact (zxs (by omega) (zxs (by omega) (zxu (by omega) (zxu (by omega) zxe)))).trans (show _ = (((tVp c n 0 ((tKd c (typ s + D) (tSk tSm c n (typ s + D))).toNat) (tSk tSm c n (typ s + D)) (tFv ((tKd c (typ s + D) (tSk tSm c n (typ s + D))).toNat) (tyx s))) : Nat) : Int) by omega)))
                    | (have y2 := g81bb hz
                       have e1 : v81o.toNat = (tVp c n 0 ((tKd c (typ s + D) (tSk tSm c n (typ s + D))).toNat) (tSk tSm c n (typ s + D)) (tFv ((tKd c (typ s + D) (tSk tSm c n (typ s + D))).toNat) (tyx s))) := by omega
                       rw [e1] at p101hv
                       first
                       | (rw [tyB_v (show (tKd c (typ s + D) (tSk tSm c n (typ s + D))) ≠ 9 by omega) hz (fun _ => by omega)]
                          exact zxs (by omega) (zxs (by omega) (zxu (by omega) (zxu (by omega) (g81b.trans hz)))))
                       | (rw [tyB_vn (show (tKd c (typ s + D) (tSk tSm c n (typ s + D))) ≠ 9 by omega) hz (by omega)]
                          exact (zxs (by omega) (zxs (by omega) (zxu (by omega) (zxu (by omega) zxe)))).trans (show _ = (((tVp c n 0 ((tKd c (typ s + D) (tSk tSm c n (typ s + D))).toNat) (tSk tSm c n (typ s + D)) (tFv ((tKd c (typ s + D) (tSk tSm c n (typ s + D))).toNat) (tyx s))) : Nat) : Int) by omega)))
                  · rw [tyB_vf hc em.2.1 (show (tKd c (typ s + D) (tSk tSm c n (typ s + D))) ≠ 9 by omega) hz]
                    first
                    | exact zxs (by omega) (zxs (by omega) (zxu (by omega) (zxu (by omega) p93hf)))
                    | exact zxs (by omega) (zxs (by omega) (zxu (by omega) (zxu (by omega) g81b)))
                    | (exfalso; omega)))
            | (exfalso; omega)
          · intro h9
            first
            | (exfalso
               rw [tyA_nb hDD hDx.2.2.1 w38.1] at h9
               exact tyF_f h9)
            | (rw [tyA_y hDD hD46 hDx.2.2.1 w38.1] at h9 ⊢
               have em := tSm_s hc w38.1.1
               first
               | (have hx : tlX c n (typ s + D + 2000 - tyk s) D (tSk tSm c n (typ s + D)) = -1 := by
                    rw [tyB_9 (show (tKd c (typ s + D) (tSk tSm c n (typ s + D))) = 9 by omega), tkX_0] at h9
                    exact h9
                  have y2 := p68bhok hx
                  have eb := tlX_b hc hx
                  have e9 : v38o.toNat = 9 := by omega
                  rw [tyB_u (show (tKd c (typ s + D) (tSk tSm c n (typ s + D))) = 9 by omega) (tkX_0.trans hx), tkE_0]
                  refine ⟨?_, y2.1, (p68bbbbfr k 30 (by omega) (by omega) (by omega) (by omega) (by omega) (by omega)).trans ((p38bbbfr k 30 (by omega) (by omega) (by omega) (by omega) (by omega) (by omega) (by omega)).trans hls)⟩
                  exact zVO_U hs hg (by omega) (hn0_ w38.1 (by omega)) p68bbhfd9 y2.2.1 ((p68bbbbfr k 16 (by omega) (by omega) (by omega) (by omega) (by omega) (by omega)).trans (p38bbbfr k 16 (by omega) (by omega) (by omega) (by omega) (by omega) (by omega) (by omega))) (fun e => ⟨(p68bbbbfr (k + 10) e (by omega) (by omega) (by omega) (by omega) (by omega) (by omega)).trans (p38bbbfr (k + 10) e (by omega) (by omega) (by omega) (by omega) (by omega) (by omega) (by omega)), (p68bbbbfr (k + 11) e (by omega) (by omega) (by omega) (by omega) (by omega) (by omega)).trans (p38bbbfr (k + 11) e (by omega) (by omega) (by omega) (by omega) (by omega) (by omega) (by omega))⟩)
                    (fun w => ⟨(p68bbbbfr (k + 2) _ (by omega) (by omega) (by omega) (by omega) (by omega) (by omega)).trans ((p38bbhst (by omega) w).1.trans (by omega)), (p68bbbbfr (k + 3) _ (by omega) (by omega) (by omega) (by omega) (by omega) (by omega)).trans (g38b (by omega) w)⟩) y2.2.2 (fun w i hi => ((p38bbhst (by omega) w).2.2.2.2 i hi).trans (by rw [e9]))
                    (fun w x j hx hj => (p68bbbbfr x j (by omega) (by omega) (by omega) (by omega) (by omega) (by omega)).trans (p38bbbfr x j (by omega) (by omega) (by omega) (by omega) (by omega) (by omega) (by omega))) (fun w j hj => (p68bbbbfr (k + 5) j (by omega) (by omega) (by omega) (by omega) (by omega) (by omega)).trans (p38bbbfr (k + 5) j (by omega) (by omega) (by omega) (by omega) (by omega) (by omega) (by omega))) (fun w j hj => (p68bbbbfr (k + 6) j (by omega) (by omega) (by omega) (by omega) (by omega) (by omega)).trans (p38bbbfr (k + 6) j (by omega) (by omega) (by omega) (by omega) (by omega) (by omega) (by omega))) (fun w j hj => (p68bbbbfr (k + 9) j (by omega) (by omega) (by omega) (by omega) (by omega) (by omega)).trans (p38bbbfr (k + 9) j (by omega) (by omega) (by omega) (by omega) (by omega) (by omega) (by omega))) (fun w j hj => p38bbbbfrL (k + 4) j (by omega)))
               | (by_cases hz : tVz c n 0 ((tKd c (typ s + D) (tSk tSm c n (typ s + D))).toNat) (tSk tSm c n (typ s + D)) (tFv ((tKd c (typ s + D) (tSk tSm c n (typ s + D))).toNat) (tyx s)) = -1
                  · first
                    | (have y3 := p93bhok hz
                       have y2 : v93o = (tVp c n 0 ((tKd c (typ s + D) (tSk tSm c n (typ s + D))).toNat) (tSk tSm c n (typ s + D)) (tFv ((tKd c (typ s + D) (tSk tSm c n (typ s + D))).toNat) (tyx s))) ∧ True := ⟨y3.1, trivial⟩
                       have e1 : v93o.toNat = (tVp c n 0 ((tKd c (typ s + D) (tSk tSm c n (typ s + D))).toNat) (tSk tSm c n (typ s + D)) (tFv ((tKd c (typ s + D) (tSk tSm c n (typ s + D))).toNat) (tyx s))) := by omega
                       rw [e1] at p101hv
                       first
                       | (exfalso
                          rw [tyB_vn (show (tKd c (typ s + D) (tSk tSm c n (typ s + D))) ≠ 9 by omega) hz (by omega)] at h9
                          exact tyF_f h9)
                       | (rw [tyB_v (show (tKd c (typ s + D) (tSk tSm c n (typ s + D))) ≠ 9 by omega) hz (fun _ => by omega)]
                          exact ⟨zVO_O (I1 := I93o) (L1 := L93o) hs hg (a_ := ((tKd c (typ s + D) (tSk tSm c n (typ s + D))).toNat)) (by omega) (by omega) hDx.2.1 zxe (zxs (by omega) (zxs (by omega) (zxu (by omega) (zxu (by omega) ((p93bbfr k 22 (by omega) (by omega) (by omega) (by omega) (by omega)).trans ((p38bbbfr k 22 (by omega) (by omega) (by omega) (by omega) (by omega) (by omega) (by omega)).trans s22)))))) ((zxs (by omega) (zxs (by omega) (zxu (by omega) (zxu (by omega) ((p93bbfr k 16 (by omega) (by omega) (by omega) (by omega) (by omega)).trans ((p38bbbfr k 16 (by omega) (by omega) (by omega) (by omega) (by omega) (by omega) (by omega)).trans (s16 (hn0_ w38.1 (by omega))))))))).trans (tXx_f (by omega)).symm)
                    ⟨zxu (by omega) (zxu (by omega) (zxu (by omega) (zxe' (by omega)))), zxu (by omega) (zxu (by omega) ((zxe' (by omega)).trans (by omega)))⟩ (fun e he => ⟨zxu (by omega) (zxu (by omega) (zxu (by omega) (zxs (by omega) ((p93bbfr (k + 10) e (by omega) (by omega) (by omega) (by omega) (by omega)).trans (p38bbbfr (k + 10) e (by omega) (by omega) (by omega) (by omega) (by omega) (by omega) (by omega)))))), zxu (by omega) (zxu (by omega) (zxs (by omega) (zxu (by omega) ((p93bbfr (k + 11) e (by omega) (by omega) (by omega) (by omega) (by omega)).trans (p38bbbfr (k + 11) e (by omega) (by omega) (by omega) (by omega) (by omega) (by omega) (by omega))))))⟩)
                    (fun w => ⟨(p93bbfr (k + 2) _ (by omega) (by omega) (by omega) (by omega) (by omega)).trans ((p38bbhst (by omega) w).1.trans w38.2.1), (p93bbfr (k + 3) _ (by omega) (by omega) (by omega) (by omega) (by omega)).trans (g38b (by omega) w)⟩) (fun w _ => y3.2 w) (fun w i h1 h2 => (p93bbbfrL (k + 4) _ (by omega) (by omega)).trans (((p38bbhst (by omega) w).2.2.2.2 i h2).trans (by rw [w38.2.1]))) (fun w i h1 h2 => (p93bbfr (k + 5) _ (by omega) (by omega) (by omega) (by omega) (by omega)).trans ((p38bbhst (by omega) w).2.2.2.1 i h2))
                    (fun x j h1 h2 => zxu (by omega) (zxu (by omega) (zxu (by omega) (zxu (by omega) rfl)))) (fun j => rfl)
                    (fun w x j hx hj => (p93bbfr x j (by omega) (by omega) (by omega) (by omega) (by omega)).trans (p38bbbfr x j (by omega) (by omega) (by omega) (by omega) (by omega) (by omega) (by omega))) (fun w j hj => (p93bbfr (k + 5) j (by omega) (by omega) (by omega) (by omega) (by omega)).trans (p38bbbfr (k + 5) j (by omega) (by omega) (by omega) (by omega) (by omega) (by omega) (by omega))) (fun w j hj => (p93bbfr (k + 6) j (by omega) (by omega) (by omega) (by omega) (by omega)).trans (p38bbbfr (k + 6) j (by omega) (by omega) (by omega) (by omega) (by omega) (by omega) (by omega))) (fun w j hj => (p93bbfr (k + 9) j (by omega) (by omega) (by omega) (by omega) (by omega)).trans (p38bbbfr (k + 9) j (by omega) (by omega) (by omega) (by omega) (by omega) (by omega) (by omega))) (fun w j hj => (p93bbbfrL (k + 4) j (by omega) (by omega)).trans (p38bbbbfrL (k + 4) j (by omega))), (by rw [y2.1]; show _ = (((tVp c n 0 ((tKd c (typ s + D) (tSk tSm c n (typ s + D))).toNat) (tSk tSm c n (typ s + D)) (tFv ((tKd c (typ s + D) (tSk tSm c n (typ s + D))).toNat) (tyx s))) + (1 - 0) : Nat) : Int); omega), zxs (by omega) (zxe.trans (show _ = ((D + 1 : Nat) : Int) - 1 by omega))⟩))
                    | (have y2 := g81bb hz
                       have e1 : v81o.toNat = (tVp c n 0 ((tKd c (typ s + D) (tSk tSm c n (typ s + D))).toNat) (tSk tSm c n (typ s + D)) (tFv ((tKd c (typ s + D) (tSk tSm c n (typ s + D))).toNat) (tyx s))) := by omega
                       rw [e1] at p101hv
                       first
                       | (exfalso
                          rw [tyB_vn (show (tKd c (typ s + D) (tSk tSm c n (typ s + D))) ≠ 9 by omega) hz (by omega)] at h9
                          exact tyF_f h9)
                       | (rw [tyB_v (show (tKd c (typ s + D) (tSk tSm c n (typ s + D))) ≠ 9 by omega) hz (fun _ => by omega)]
                          exact ⟨zVO_O (I1 := I81o) (L1 := L81o) hs hg (a_ := ((tKd c (typ s + D) (tSk tSm c n (typ s + D))).toNat)) (by omega) (by omega) hDx.2.1 zxe (zxs (by omega) (zxs (by omega) (zxu (by omega) (zxu (by omega) ((p81bfr k 22 (by omega) (by omega)).trans ((p38bbbfr k 22 (by omega) (by omega) (by omega) (by omega) (by omega) (by omega) (by omega)).trans s22)))))) (zxs (by omega) (zxs (by omega) (zxu (by omega) (zxu (by omega) y2.2))))
                    ⟨zxu (by omega) (zxu (by omega) (zxu (by omega) (zxe' (by omega)))), zxu (by omega) (zxu (by omega) ((zxe' (by omega)).trans (by omega)))⟩ (fun e he => ⟨zxu (by omega) (zxu (by omega) (zxu (by omega) (zxs (by omega) ((p81bfr (k + 10) e (by omega) (by omega)).trans (p38bbbfr (k + 10) e (by omega) (by omega) (by omega) (by omega) (by omega) (by omega) (by omega)))))), zxu (by omega) (zxu (by omega) (zxs (by omega) (zxu (by omega) ((p81bfr (k + 11) e (by omega) (by omega)).trans (p38bbbfr (k + 11) e (by omega) (by omega) (by omega) (by omega) (by omega) (by omega) (by omega))))))⟩)
                    (fun w => ⟨(p81bfr (k + 2) _ (by omega) (by omega)).trans ((p38bbhst (by omega) w).1.trans w38.2.1), (p81bfr (k + 3) _ (by omega) (by omega)).trans (g38b (by omega) w)⟩) (fun w h => absurd (by omega) h) (fun w i h1 h2 => (p81bbfrL (k + 4) _ (by omega)).trans (((p38bbhst (by omega) w).2.2.2.2 i h2).trans (by rw [w38.2.1]))) (fun w i h1 h2 => (p81bfr (k + 5) _ (by omega) (by omega)).trans ((p38bbhst (by omega) w).2.2.2.1 i h2))
                    (fun x j h1 h2 => zxu (by omega) (zxu (by omega) (zxu (by omega) (zxu (by omega) rfl)))) (fun j => rfl)
                    (fun w x j hx hj => (p81bfr x j (by omega) (by omega)).trans (p38bbbfr x j (by omega) (by omega) (by omega) (by omega) (by omega) (by omega) (by omega))) (fun w j hj => (p81bfr (k + 5) j (by omega) (by omega)).trans (p38bbbfr (k + 5) j (by omega) (by omega) (by omega) (by omega) (by omega) (by omega) (by omega))) (fun w j hj => (p81bfr (k + 6) j (by omega) (by omega)).trans (p38bbbfr (k + 6) j (by omega) (by omega) (by omega) (by omega) (by omega) (by omega) (by omega))) (fun w j hj => (p81bfr (k + 9) j (by omega) (by omega)).trans (p38bbbfr (k + 9) j (by omega) (by omega) (by omega) (by omega) (by omega) (by omega) (by omega))) (fun w j hj => (p81bbfrL (k + 4) j (by omega)).trans (p38bbbbfrL (k + 4) j (by omega))), (by rw [y2.1]; show _ = (((tVp c n 0 ((tKd c (typ s + D) (tSk tSm c n (typ s + D))).toNat) (tSk tSm c n (typ s + D)) (tFv ((tKd c (typ s + D) (tSk tSm c n (typ s + D))).toNat) (tyx s))) + (1 - 0) : Nat) : Int); omega), zxs (by omega) (zxe.trans (show _ = ((D + 1 : Nat) : Int) - 1 by omega))⟩))
                  · exfalso
                    rw [tyB_vf hc em.2.1 (show (tKd c (typ s + D) (tSk tSm c n (typ s + D))) ≠ 9 by omega) hz] at h9
                    exact hz h9))
            | (exfalso; omega)
      · refine hQ _ _ _ ?_ ?_ (by omega) (fun c j h0 h1 h2 h3 h4 h5 h6 h7 h8 h9 h10 h11 h12 h13 h14 h15 => ((p38bbbfr c j h2 h3 h4 (fun w => h7 ⟨w.1, w.2.1⟩) (fun w => h8 ⟨w.1, w.2.1⟩) (fun w => h12 ⟨w.1, w.2.1⟩) (fun w => h9 ⟨w.1, w.2.1⟩)).trans rfl)) (fun c j h0 h1 => ((p38bbbbfrL c j (fun w => h1 ⟨w.1, w.2.1⟩)).trans rfl))
        · first
          | (rw [tyA_nb hDD hDx.2.2.1 w38.1]
             exact w38.2.2)
          | (rw [tyA_y hDD hD46 hDx.2.2.1 w38.1]
             have em := tSm_s hc w38.1.1
             first
             | (rw [tyB_9 (show (tKd c (typ s + D) (tSk tSm c n (typ s + D))) = 9 by omega), tkX_0]
                exact p68hf)
             | (by_cases hz : tVz c n 0 ((tKd c (typ s + D) (tSk tSm c n (typ s + D))).toNat) (tSk tSm c n (typ s + D)) (tFv ((tKd c (typ s + D) (tSk tSm c n (typ s + D))).toNat) (tyx s)) = -1
                · first
                  | (have y2 := p93bhok hz
                     have e1 : v93o.toNat = (tVp c n 0 ((tKd c (typ s + D) (tSk tSm c n (typ s + D))).toNat) (tSk tSm c n (typ s + D)) (tFv ((tKd c (typ s + D) (tSk tSm c n (typ s + D))).toNat) (tyx s))) := by omega
                     rw [e1] at p101hv
                     first
                     | (rw [tyB_v (show (tKd c (typ s + D) (tSk tSm c n (typ s + D))) ≠ 9 by omega) hz (fun _ => by omega)]
                        exact zxs (by omega) (zxs (by omega) (zxu (by omega) (zxu (by omega) (p93hf.trans hz)))))
                     | (rw [tyB_vn (show (tKd c (typ s + D) (tSk tSm c n (typ s + D))) ≠ 9 by omega) hz (by omega)]
                        exact (zxs (by omega) (zxs (by omega) (zxu (by omega) (zxu (by omega) zxe)))).trans (show _ = (((tVp c n 0 ((tKd c (typ s + D) (tSk tSm c n (typ s + D))).toNat) (tSk tSm c n (typ s + D)) (tFv ((tKd c (typ s + D) (tSk tSm c n (typ s + D))).toNat) (tyx s))) : Nat) : Int) by omega)))
                  | (have y2 := g81bb hz
                     have e1 : v81o.toNat = (tVp c n 0 ((tKd c (typ s + D) (tSk tSm c n (typ s + D))).toNat) (tSk tSm c n (typ s + D)) (tFv ((tKd c (typ s + D) (tSk tSm c n (typ s + D))).toNat) (tyx s))) := by omega
                     rw [e1] at p101hv
                     first
                     | (rw [tyB_v (show (tKd c (typ s + D) (tSk tSm c n (typ s + D))) ≠ 9 by omega) hz (fun _ => by omega)]
                        exact zxs (by omega) (zxs (by omega) (zxu (by omega) (zxu (by omega) (g81b.trans hz)))))
                     | (rw [tyB_vn (show (tKd c (typ s + D) (tSk tSm c n (typ s + D))) ≠ 9 by omega) hz (by omega)]
                        exact (zxs (by omega) (zxs (by omega) (zxu (by omega) (zxu (by omega) zxe)))).trans (show _ = (((tVp c n 0 ((tKd c (typ s + D) (tSk tSm c n (typ s + D))).toNat) (tSk tSm c n (typ s + D)) (tFv ((tKd c (typ s + D) (tSk tSm c n (typ s + D))).toNat) (tyx s))) : Nat) : Int) by omega)))
                · rw [tyB_vf hc em.2.1 (show (tKd c (typ s + D) (tSk tSm c n (typ s + D))) ≠ 9 by omega) hz]
                  first
                  | exact zxs (by omega) (zxs (by omega) (zxu (by omega) (zxu (by omega) p93hf)))
                  | exact zxs (by omega) (zxs (by omega) (zxu (by omega) (zxu (by omega) g81b)))
                  | (exfalso; omega)))
          | (exfalso; omega)
        · intro h9
          first
          | (exfalso
             rw [tyA_nb hDD hDx.2.2.1 w38.1] at h9
             exact tyF_f h9)
          | (rw [tyA_y hDD hD46 hDx.2.2.1 w38.1] at h9 ⊢
             have em := tSm_s hc w38.1.1
             first
             | (have hx : tlX c n (typ s + D + 2000 - tyk s) D (tSk tSm c n (typ s + D)) = -1 := by
                  rw [tyB_9 (show (tKd c (typ s + D) (tSk tSm c n (typ s + D))) = 9 by omega), tkX_0] at h9
                  exact h9
                have y2 := p68bhok hx
                have eb := tlX_b hc hx
                have e9 : v38o.toNat = 9 := by omega
                rw [tyB_u (show (tKd c (typ s + D) (tSk tSm c n (typ s + D))) = 9 by omega) (tkX_0.trans hx), tkE_0]
                refine ⟨?_, y2.1, (p68bbbbfr k 30 (by omega) (by omega) (by omega) (by omega) (by omega) (by omega)).trans ((p38bbbfr k 30 (by omega) (by omega) (by omega) (by omega) (by omega) (by omega) (by omega)).trans hls)⟩
                exact zVO_U hs hg (by omega) (hn0_ w38.1 (by omega)) p68bbhfd9 y2.2.1 ((p68bbbbfr k 16 (by omega) (by omega) (by omega) (by omega) (by omega) (by omega)).trans (p38bbbfr k 16 (by omega) (by omega) (by omega) (by omega) (by omega) (by omega) (by omega))) (fun e => ⟨(p68bbbbfr (k + 10) e (by omega) (by omega) (by omega) (by omega) (by omega) (by omega)).trans (p38bbbfr (k + 10) e (by omega) (by omega) (by omega) (by omega) (by omega) (by omega) (by omega)), (p68bbbbfr (k + 11) e (by omega) (by omega) (by omega) (by omega) (by omega) (by omega)).trans (p38bbbfr (k + 11) e (by omega) (by omega) (by omega) (by omega) (by omega) (by omega) (by omega))⟩)
                  (fun w => ⟨(p68bbbbfr (k + 2) _ (by omega) (by omega) (by omega) (by omega) (by omega) (by omega)).trans ((p38bbhst (by omega) w).1.trans (by omega)), (p68bbbbfr (k + 3) _ (by omega) (by omega) (by omega) (by omega) (by omega) (by omega)).trans (g38b (by omega) w)⟩) y2.2.2 (fun w i hi => ((p38bbhst (by omega) w).2.2.2.2 i hi).trans (by rw [e9]))
                  (fun w x j hx hj => (p68bbbbfr x j (by omega) (by omega) (by omega) (by omega) (by omega) (by omega)).trans (p38bbbfr x j (by omega) (by omega) (by omega) (by omega) (by omega) (by omega) (by omega))) (fun w j hj => (p68bbbbfr (k + 5) j (by omega) (by omega) (by omega) (by omega) (by omega) (by omega)).trans (p38bbbfr (k + 5) j (by omega) (by omega) (by omega) (by omega) (by omega) (by omega) (by omega))) (fun w j hj => (p68bbbbfr (k + 6) j (by omega) (by omega) (by omega) (by omega) (by omega) (by omega)).trans (p38bbbfr (k + 6) j (by omega) (by omega) (by omega) (by omega) (by omega) (by omega) (by omega))) (fun w j hj => (p68bbbbfr (k + 9) j (by omega) (by omega) (by omega) (by omega) (by omega) (by omega)).trans (p38bbbfr (k + 9) j (by omega) (by omega) (by omega) (by omega) (by omega) (by omega) (by omega))) (fun w j hj => p38bbbbfrL (k + 4) j (by omega)))
             | (by_cases hz : tVz c n 0 ((tKd c (typ s + D) (tSk tSm c n (typ s + D))).toNat) (tSk tSm c n (typ s + D)) (tFv ((tKd c (typ s + D) (tSk tSm c n (typ s + D))).toNat) (tyx s)) = -1
                · first
                  | (have y3 := p93bhok hz
                     have y2 : v93o = (tVp c n 0 ((tKd c (typ s + D) (tSk tSm c n (typ s + D))).toNat) (tSk tSm c n (typ s + D)) (tFv ((tKd c (typ s + D) (tSk tSm c n (typ s + D))).toNat) (tyx s))) ∧ True := ⟨y3.1, trivial⟩
                     have e1 : v93o.toNat = (tVp c n 0 ((tKd c (typ s + D) (tSk tSm c n (typ s + D))).toNat) (tSk tSm c n (typ s + D)) (tFv ((tKd c (typ s + D) (tSk tSm c n (typ s + D))).toNat) (tyx s))) := by omega
                     rw [e1] at p101hv
                     first
                     | (exfalso
                        rw [tyB_vn (show (tKd c (typ s + D) (tSk tSm c n (typ s + D))) ≠ 9 by omega) hz (by omega)] at h9
                        exact tyF_f h9)
                     | (rw [tyB_v (show (tKd c (typ s + D) (tSk tSm c n (typ s + D))) ≠ 9 by omega) hz (fun _ => by omega)]
                        exact ⟨zVO_O (I1 := I93o) (L1 := L93o) hs hg (a_ := ((tKd c (typ s + D) (tSk tSm c n (typ s + D))).toNat)) (by omega) (by omega) hDx.2.1 zxe (zxs (by omega) (zxs (by omega) (zxu (by omega) (zxu (by omega) ((p93bbfr k 22 (by omega) (by omega) (by omega) (by omega) (by omega)).trans ((p38bbbfr k 22 (by omega) (by omega) (by omega) (by omega) (by omega) (by omega) (by omega)).trans s22)))))) ((zxs (by omega) (zxs (by omega) (zxu (by omega) (zxu (by omega) ((p93bbfr k 16 (by omega) (by omega) (by omega) (by omega) (by omega)).trans ((p38bbbfr k 16 (by omega) (by omega) (by omega) (by omega) (by omega) (by omega) (by omega)).trans (s16 (hn0_ w38.1 (by omega))))))))).trans (tXx_f (by omega)).symm)
                  ⟨zxu (by omega) (zxu (by omega) (zxu (by omega) (zxe' (by omega)))), zxu (by omega) (zxu (by omega) ((zxe' (by omega)).trans (by omega)))⟩ (fun e he => ⟨zxu (by omega) (zxu (by omega) (zxu (by omega) (zxs (by omega) ((p93bbfr (k + 10) e (by omega) (by omega) (by omega) (by omega) (by omega)).trans (p38bbbfr (k + 10) e (by omega) (by omega) (by omega) (by omega) (by omega) (by omega) (by omega)))))), zxu (by omega) (zxu (by omega) (zxs (by omega) (zxu (by omega) ((p93bbfr (k + 11) e (by omega) (by omega) (by omega) (by omega) (by omega)).trans (p38bbbfr (k + 11) e (by omega) (by omega) (by omega) (by omega) (by omega) (by omega) (by omega))))))⟩)
                  (fun w => ⟨(p93bbfr (k + 2) _ (by omega) (by omega) (by omega) (by omega) (by omega)).trans ((p38bbhst (by omega) w).1.trans w38.2.1), (p93bbfr (k + 3) _ (by omega) (by omega) (by omega) (by omega) (by omega)).trans (g38b (by omega) w)⟩) (fun w _ => y3.2 w) (fun w i h1 h2 => (p93bbbfrL (k + 4) _ (by omega) (by omega)).trans (((p38bbhst (by omega) w).2.2.2.2 i h2).trans (by rw [w38.2.1]))) (fun w i h1 h2 => (p93bbfr (k + 5) _ (by omega) (by omega) (by omega) (by omega) (by omega)).trans ((p38bbhst (by omega) w).2.2.2.1 i h2))
                  (fun x j h1 h2 => zxu (by omega) (zxu (by omega) (zxu (by omega) (zxu (by omega) rfl)))) (fun j => rfl)
                  (fun w x j hx hj => (p93bbfr x j (by omega) (by omega) (by omega) (by omega) (by omega)).trans (p38bbbfr x j (by omega) (by omega) (by omega) (by omega) (by omega) (by omega) (by omega))) (fun w j hj => (p93bbfr (k + 5) j (by omega) (by omega) (by omega) (by omega) (by omega)).trans (p38bbbfr (k + 5) j (by omega) (by omega) (by omega) (by omega) (by omega) (by omega) (by omega))) (fun w j hj => (p93bbfr (k + 6) j (by omega) (by omega) (by omega) (by omega) (by omega)).trans (p38bbbfr (k + 6) j (by omega) (by omega) (by omega) (by omega) (by omega) (by omega) (by omega))) (fun w j hj => (p93bbfr (k + 9) j (by omega) (by omega) (by omega) (by omega) (by omega)).trans (p38bbbfr (k + 9) j (by omega) (by omega) (by omega) (by omega) (by omega) (by omega) (by omega))) (fun w j hj => (p93bbbfrL (k + 4) j (by omega) (by omega)).trans (p38bbbbfrL (k + 4) j (by omega))), (by rw [y2.1]; show _ = (((tVp c n 0 ((tKd c (typ s + D) (tSk tSm c n (typ s + D))).toNat) (tSk tSm c n (typ s + D)) (tFv ((tKd c (typ s + D) (tSk tSm c n (typ s + D))).toNat) (tyx s))) + (1 - 0) : Nat) : Int); omega), zxs (by omega) (zxe.trans (show _ = ((D + 1 : Nat) : Int) - 1 by omega))⟩))
                  | (have y2 := g81bb hz
                     have e1 : v81o.toNat = (tVp c n 0 ((tKd c (typ s + D) (tSk tSm c n (typ s + D))).toNat) (tSk tSm c n (typ s + D)) (tFv ((tKd c (typ s + D) (tSk tSm c n (typ s + D))).toNat) (tyx s))) := by omega
                     rw [e1] at p101hv
                     first
                     | (exfalso
                        rw [tyB_vn (show (tKd c (typ s + D) (tSk tSm c n (typ s + D))) ≠ 9 by omega) hz (by omega)] at h9
                        exact tyF_f h9)
                     | (rw [tyB_v (show (tKd c (typ s + D) (tSk tSm c n (typ s + D))) ≠ 9 by omega) hz (fun _ => by omega)]
                        exact ⟨zVO_O (I1 := I81o) (L1 := L81o) hs hg (a_ := ((tKd c (typ s + D) (tSk tSm c n (typ s + D))).toNat)) (by omega) (by omega) hDx.2.1 zxe (zxs (by omega) (zxs (by omega) (zxu (by omega) (zxu (by omega) ((p81bfr k 22 (by omega) (by omega)).trans ((p38bbbfr k 22 (by omega) (by omega) (by omega) (by omega) (by omega) (by omega) (by omega)).trans s22)))))) (zxs (by omega) (zxs (by omega) (zxu (by omega) (zxu (by omega) y2.2))))
                  ⟨zxu (by omega) (zxu (by omega) (zxu (by omega) (zxe' (by omega)))), zxu (by omega) (zxu (by omega) ((zxe' (by omega)).trans (by omega)))⟩ (fun e he => ⟨zxu (by omega) (zxu (by omega) (zxu (by omega) (zxs (by omega) ((p81bfr (k + 10) e (by omega) (by omega)).trans (p38bbbfr (k + 10) e (by omega) (by omega) (by omega) (by omega) (by omega) (by omega) (by omega)))))), zxu (by omega) (zxu (by omega) (zxs (by omega) (zxu (by omega) ((p81bfr (k + 11) e (by omega) (by omega)).trans (p38bbbfr (k + 11) e (by omega) (by omega) (by omega) (by omega) (by omega) (by omega) (by omega))))))⟩)
                  (fun w => ⟨(p81bfr (k + 2) _ (by omega) (by omega)).trans ((p38bbhst (by omega) w).1.trans w38.2.1), (p81bfr (k + 3) _ (by omega) (by omega)).trans (g38b (by omega) w)⟩) (fun w h => absurd (by omega) h) (fun w i h1 h2 => (p81bbfrL (k + 4) _ (by omega)).trans (((p38bbhst (by omega) w).2.2.2.2 i h2).trans (by rw [w38.2.1]))) (fun w i h1 h2 => (p81bfr (k + 5) _ (by omega) (by omega)).trans ((p38bbhst (by omega) w).2.2.2.1 i h2))
                  (fun x j h1 h2 => zxu (by omega) (zxu (by omega) (zxu (by omega) (zxu (by omega) rfl)))) (fun j => rfl)
                  (fun w x j hx hj => (p81bfr x j (by omega) (by omega)).trans (p38bbbfr x j (by omega) (by omega) (by omega) (by omega) (by omega) (by omega) (by omega))) (fun w j hj => (p81bfr (k + 5) j (by omega) (by omega)).trans (p38bbbfr (k + 5) j (by omega) (by omega) (by omega) (by omega) (by omega) (by omega) (by omega))) (fun w j hj => (p81bfr (k + 6) j (by omega) (by omega)).trans (p38bbbfr (k + 6) j (by omega) (by omega) (by omega) (by omega) (by omega) (by omega) (by omega))) (fun w j hj => (p81bfr (k + 9) j (by omega) (by omega)).trans (p38bbbfr (k + 9) j (by omega) (by omega) (by omega) (by omega) (by omega) (by omega) (by omega))) (fun w j hj => (p81bbfrL (k + 4) j (by omega)).trans (p38bbbbfrL (k + 4) j (by omega))), (by rw [y2.1]; show _ = (((tVp c n 0 ((tKd c (typ s + D) (tSk tSm c n (typ s + D))).toNat) (tSk tSm c n (typ s + D)) (tFv ((tKd c (typ s + D) (tSk tSm c n (typ s + D))).toNat) (tyx s))) + (1 - 0) : Nat) : Int); omega), zxs (by omega) (zxe.trans (show _ = ((D + 1 : Nat) : Int) - 1 by omega))⟩))
                · exfalso
                  rw [tyB_vf hc em.2.1 (show (tKd c (typ s + D) (tSk tSm c n (typ s + D))) ≠ 9 by omega) hz] at h9
                  exact hz h9))
          | (exfalso; omega)
    · refine And.intro ⟨(by omega), (zRb rfl)⟩ ⟨(fun h46 => False.elim (by omega)), fun h46 => ?_⟩
      refine hQ _ _ _ ?_ ?_ (by omega) (fun c j h0 h1 h2 h3 h4 h5 h6 h7 h8 h9 h10 h11 h12 h13 h14 h15 => ((p38bbbfr c j h2 h3 h4 (fun w => h7 ⟨w.1, w.2.1⟩) (fun w => h8 ⟨w.1, w.2.1⟩) (fun w => h12 ⟨w.1, w.2.1⟩) (fun w => h9 ⟨w.1, w.2.1⟩)).trans rfl)) (fun c j h0 h1 => ((p38bbbbfrL c j (fun w => h1 ⟨w.1, w.2.1⟩)).trans rfl))
      · first
        | (rw [tyA_nb hDD hDx.2.2.1 w38.1]
           exact w38.2.2)
        | (rw [tyA_y hDD hD46 hDx.2.2.1 w38.1]
           have em := tSm_s hc w38.1.1
           first
           | (rw [tyB_9 (show (tKd c (typ s + D) (tSk tSm c n (typ s + D))) = 9 by omega), tkX_0]
              exact p68hf)
           | (by_cases hz : tVz c n 0 ((tKd c (typ s + D) (tSk tSm c n (typ s + D))).toNat) (tSk tSm c n (typ s + D)) (tFv ((tKd c (typ s + D) (tSk tSm c n (typ s + D))).toNat) (tyx s)) = -1
              · first
                | (have y2 := p93bhok hz
                   have e1 : v93o.toNat = (tVp c n 0 ((tKd c (typ s + D) (tSk tSm c n (typ s + D))).toNat) (tSk tSm c n (typ s + D)) (tFv ((tKd c (typ s + D) (tSk tSm c n (typ s + D))).toNat) (tyx s))) := by omega
                   rw [e1] at p101hv
                   first
                   | (rw [tyB_v (show (tKd c (typ s + D) (tSk tSm c n (typ s + D))) ≠ 9 by omega) hz (fun _ => by omega)]
                      exact zxs (by omega) (zxs (by omega) (zxu (by omega) (zxu (by omega) (p93hf.trans hz)))))
                   | (rw [tyB_vn (show (tKd c (typ s + D) (tSk tSm c n (typ s + D))) ≠ 9 by omega) hz (by omega)]
                      exact (zxs (by omega) (zxs (by omega) (zxu (by omega) (zxu (by omega) zxe)))).trans (show _ = (((tVp c n 0 ((tKd c (typ s + D) (tSk tSm c n (typ s + D))).toNat) (tSk tSm c n (typ s + D)) (tFv ((tKd c (typ s + D) (tSk tSm c n (typ s + D))).toNat) (tyx s))) : Nat) : Int) by omega)))
                | (have y2 := g81bb hz
                   have e1 : v81o.toNat = (tVp c n 0 ((tKd c (typ s + D) (tSk tSm c n (typ s + D))).toNat) (tSk tSm c n (typ s + D)) (tFv ((tKd c (typ s + D) (tSk tSm c n (typ s + D))).toNat) (tyx s))) := by omega
                   rw [e1] at p101hv
                   first
                   | (rw [tyB_v (show (tKd c (typ s + D) (tSk tSm c n (typ s + D))) ≠ 9 by omega) hz (fun _ => by omega)]
                      exact zxs (by omega) (zxs (by omega) (zxu (by omega) (zxu (by omega) (g81b.trans hz)))))
                   | (rw [tyB_vn (show (tKd c (typ s + D) (tSk tSm c n (typ s + D))) ≠ 9 by omega) hz (by omega)]
                      exact (zxs (by omega) (zxs (by omega) (zxu (by omega) (zxu (by omega) zxe)))).trans (show _ = (((tVp c n 0 ((tKd c (typ s + D) (tSk tSm c n (typ s + D))).toNat) (tSk tSm c n (typ s + D)) (tFv ((tKd c (typ s + D) (tSk tSm c n (typ s + D))).toNat) (tyx s))) : Nat) : Int) by omega)))
              · rw [tyB_vf hc em.2.1 (show (tKd c (typ s + D) (tSk tSm c n (typ s + D))) ≠ 9 by omega) hz]
                first
                | exact zxs (by omega) (zxs (by omega) (zxu (by omega) (zxu (by omega) p93hf)))
                | exact zxs (by omega) (zxs (by omega) (zxu (by omega) (zxu (by omega) g81b)))
                | (exfalso; omega)))
        | (exfalso; omega)
      · intro h9
        first
        | (exfalso
           rw [tyA_nb hDD hDx.2.2.1 w38.1] at h9
           exact tyF_f h9)
        | (rw [tyA_y hDD hD46 hDx.2.2.1 w38.1] at h9 ⊢
           have em := tSm_s hc w38.1.1
           first
           | (have hx : tlX c n (typ s + D + 2000 - tyk s) D (tSk tSm c n (typ s + D)) = -1 := by
                rw [tyB_9 (show (tKd c (typ s + D) (tSk tSm c n (typ s + D))) = 9 by omega), tkX_0] at h9
                exact h9
              have y2 := p68bhok hx
              have eb := tlX_b hc hx
              have e9 : v38o.toNat = 9 := by omega
              rw [tyB_u (show (tKd c (typ s + D) (tSk tSm c n (typ s + D))) = 9 by omega) (tkX_0.trans hx), tkE_0]
              refine ⟨?_, y2.1, (p68bbbbfr k 30 (by omega) (by omega) (by omega) (by omega) (by omega) (by omega)).trans ((p38bbbfr k 30 (by omega) (by omega) (by omega) (by omega) (by omega) (by omega) (by omega)).trans hls)⟩
              exact zVO_U hs hg (by omega) (hn0_ w38.1 (by omega)) p68bbhfd9 y2.2.1 ((p68bbbbfr k 16 (by omega) (by omega) (by omega) (by omega) (by omega) (by omega)).trans (p38bbbfr k 16 (by omega) (by omega) (by omega) (by omega) (by omega) (by omega) (by omega))) (fun e => ⟨(p68bbbbfr (k + 10) e (by omega) (by omega) (by omega) (by omega) (by omega) (by omega)).trans (p38bbbfr (k + 10) e (by omega) (by omega) (by omega) (by omega) (by omega) (by omega) (by omega)), (p68bbbbfr (k + 11) e (by omega) (by omega) (by omega) (by omega) (by omega) (by omega)).trans (p38bbbfr (k + 11) e (by omega) (by omega) (by omega) (by omega) (by omega) (by omega) (by omega))⟩)
                (fun w => ⟨(p68bbbbfr (k + 2) _ (by omega) (by omega) (by omega) (by omega) (by omega) (by omega)).trans ((p38bbhst (by omega) w).1.trans (by omega)), (p68bbbbfr (k + 3) _ (by omega) (by omega) (by omega) (by omega) (by omega) (by omega)).trans (g38b (by omega) w)⟩) y2.2.2 (fun w i hi => ((p38bbhst (by omega) w).2.2.2.2 i hi).trans (by rw [e9]))
                (fun w x j hx hj => (p68bbbbfr x j (by omega) (by omega) (by omega) (by omega) (by omega) (by omega)).trans (p38bbbfr x j (by omega) (by omega) (by omega) (by omega) (by omega) (by omega) (by omega))) (fun w j hj => (p68bbbbfr (k + 5) j (by omega) (by omega) (by omega) (by omega) (by omega) (by omega)).trans (p38bbbfr (k + 5) j (by omega) (by omega) (by omega) (by omega) (by omega) (by omega) (by omega))) (fun w j hj => (p68bbbbfr (k + 6) j (by omega) (by omega) (by omega) (by omega) (by omega) (by omega)).trans (p38bbbfr (k + 6) j (by omega) (by omega) (by omega) (by omega) (by omega) (by omega) (by omega))) (fun w j hj => (p68bbbbfr (k + 9) j (by omega) (by omega) (by omega) (by omega) (by omega) (by omega)).trans (p38bbbfr (k + 9) j (by omega) (by omega) (by omega) (by omega) (by omega) (by omega) (by omega))) (fun w j hj => p38bbbbfrL (k + 4) j (by omega)))
           | (by_cases hz : tVz c n 0 ((tKd c (typ s + D) (tSk tSm c n (typ s + D))).toNat) (tSk tSm c n (typ s + D)) (tFv ((tKd c (typ s + D) (tSk tSm c n (typ s + D))).toNat) (tyx s)) = -1
              · first
                | (have y3 := p93bhok hz
                   have y2 : v93o = (tVp c n 0 ((tKd c (typ s + D) (tSk tSm c n (typ s + D))).toNat) (tSk tSm c n (typ s + D)) (tFv ((tKd c (typ s + D) (tSk tSm c n (typ s + D))).toNat) (tyx s))) ∧ True := ⟨y3.1, trivial⟩
                   have e1 : v93o.toNat = (tVp c n 0 ((tKd c (typ s + D) (tSk tSm c n (typ s + D))).toNat) (tSk tSm c n (typ s + D)) (tFv ((tKd c (typ s + D) (tSk tSm c n (typ s + D))).toNat) (tyx s))) := by omega
                   rw [e1] at p101hv
                   first
                   | (exfalso
                      rw [tyB_vn (show (tKd c (typ s + D) (tSk tSm c n (typ s + D))) ≠ 9 by omega) hz (by omega)] at h9
                      exact tyF_f h9)
                   | (rw [tyB_v (show (tKd c (typ s + D) (tSk tSm c n (typ s + D))) ≠ 9 by omega) hz (fun _ => by omega)]
                      exact ⟨zVO_O (I1 := I93o) (L1 := L93o) hs hg (a_ := ((tKd c (typ s + D) (tSk tSm c n (typ s + D))).toNat)) (by omega) (by omega) hDx.2.1 zxe (zxs (by omega) (zxs (by omega) (zxu (by omega) (zxu (by omega) ((p93bbfr k 22 (by omega) (by omega) (by omega) (by omega) (by omega)).trans ((p38bbbfr k 22 (by omega) (by omega) (by omega) (by omega) (by omega) (by omega) (by omega)).trans s22)))))) ((zxs (by omega) (zxs (by omega) (zxu (by omega) (zxu (by omega) ((p93bbfr k 16 (by omega) (by omega) (by omega) (by omega) (by omega)).trans ((p38bbbfr k 16 (by omega) (by omega) (by omega) (by omega) (by omega) (by omega) (by omega)).trans (s16 (hn0_ w38.1 (by omega))))))))).trans (tXx_f (by omega)).symm)
                ⟨zxu (by omega) (zxu (by omega) (zxu (by omega) (zxe' (by omega)))), zxu (by omega) (zxu (by omega) ((zxe' (by omega)).trans (by omega)))⟩ (fun e he => ⟨zxu (by omega) (zxu (by omega) (zxu (by omega) (zxs (by omega) ((p93bbfr (k + 10) e (by omega) (by omega) (by omega) (by omega) (by omega)).trans (p38bbbfr (k + 10) e (by omega) (by omega) (by omega) (by omega) (by omega) (by omega) (by omega)))))), zxu (by omega) (zxu (by omega) (zxs (by omega) (zxu (by omega) ((p93bbfr (k + 11) e (by omega) (by omega) (by omega) (by omega) (by omega)).trans (p38bbbfr (k + 11) e (by omega) (by omega) (by omega) (by omega) (by omega) (by omega) (by omega))))))⟩)
                (fun w => ⟨(p93bbfr (k + 2) _ (by omega) (by omega) (by omega) (by omega) (by omega)).trans ((p38bbhst (by omega) w).1.trans w38.2.1), (p93bbfr (k + 3) _ (by omega) (by omega) (by omega) (by omega) (by omega)).trans (g38b (by omega) w)⟩) (fun w _ => y3.2 w) (fun w i h1 h2 => (p93bbbfrL (k + 4) _ (by omega) (by omega)).trans (((p38bbhst (by omega) w).2.2.2.2 i h2).trans (by rw [w38.2.1]))) (fun w i h1 h2 => (p93bbfr (k + 5) _ (by omega) (by omega) (by omega) (by omega) (by omega)).trans ((p38bbhst (by omega) w).2.2.2.1 i h2))
                (fun x j h1 h2 => zxu (by omega) (zxu (by omega) (zxu (by omega) (zxu (by omega) rfl)))) (fun j => rfl)
                (fun w x j hx hj => (p93bbfr x j (by omega) (by omega) (by omega) (by omega) (by omega)).trans (p38bbbfr x j (by omega) (by omega) (by omega) (by omega) (by omega) (by omega) (by omega))) (fun w j hj => (p93bbfr (k + 5) j (by omega) (by omega) (by omega) (by omega) (by omega)).trans (p38bbbfr (k + 5) j (by omega) (by omega) (by omega) (by omega) (by omega) (by omega) (by omega))) (fun w j hj => (p93bbfr (k + 6) j (by omega) (by omega) (by omega) (by omega) (by omega)).trans (p38bbbfr (k + 6) j (by omega) (by omega) (by omega) (by omega) (by omega) (by omega) (by omega))) (fun w j hj => (p93bbfr (k + 9) j (by omega) (by omega) (by omega) (by omega) (by omega)).trans (p38bbbfr (k + 9) j (by omega) (by omega) (by omega) (by omega) (by omega) (by omega) (by omega))) (fun w j hj => (p93bbbfrL (k + 4) j (by omega) (by omega)).trans (p38bbbbfrL (k + 4) j (by omega))), (by rw [y2.1]; show _ = (((tVp c n 0 ((tKd c (typ s + D) (tSk tSm c n (typ s + D))).toNat) (tSk tSm c n (typ s + D)) (tFv ((tKd c (typ s + D) (tSk tSm c n (typ s + D))).toNat) (tyx s))) + (1 - 0) : Nat) : Int); omega), zxs (by omega) (zxe.trans (show _ = ((D + 1 : Nat) : Int) - 1 by omega))⟩))
                | (have y2 := g81bb hz
                   have e1 : v81o.toNat = (tVp c n 0 ((tKd c (typ s + D) (tSk tSm c n (typ s + D))).toNat) (tSk tSm c n (typ s + D)) (tFv ((tKd c (typ s + D) (tSk tSm c n (typ s + D))).toNat) (tyx s))) := by omega
                   rw [e1] at p101hv
                   first
                   | (exfalso
                      rw [tyB_vn (show (tKd c (typ s + D) (tSk tSm c n (typ s + D))) ≠ 9 by omega) hz (by omega)] at h9
                      exact tyF_f h9)
                   | (rw [tyB_v (show (tKd c (typ s + D) (tSk tSm c n (typ s + D))) ≠ 9 by omega) hz (fun _ => by omega)]
                      exact ⟨zVO_O (I1 := I81o) (L1 := L81o) hs hg (a_ := ((tKd c (typ s + D) (tSk tSm c n (typ s + D))).toNat)) (by omega) (by omega) hDx.2.1 zxe (zxs (by omega) (zxs (by omega) (zxu (by omega) (zxu (by omega) ((p81bfr k 22 (by omega) (by omega)).trans ((p38bbbfr k 22 (by omega) (by omega) (by omega) (by omega) (by omega) (by omega) (by omega)).trans s22)))))) (zxs (by omega) (zxs (by omega) (zxu (by omega) (zxu (by omega) y2.2))))
                ⟨zxu (by omega) (zxu (by omega) (zxu (by omega) (zxe' (by omega)))), zxu (by omega) (zxu (by omega) ((zxe' (by omega)).trans (by omega)))⟩ (fun e he => ⟨zxu (by omega) (zxu (by omega) (zxu (by omega) (zxs (by omega) ((p81bfr (k + 10) e (by omega) (by omega)).trans (p38bbbfr (k + 10) e (by omega) (by omega) (by omega) (by omega) (by omega) (by omega) (by omega)))))), zxu (by omega) (zxu (by omega) (zxs (by omega) (zxu (by omega) ((p81bfr (k + 11) e (by omega) (by omega)).trans (p38bbbfr (k + 11) e (by omega) (by omega) (by omega) (by omega) (by omega) (by omega) (by omega))))))⟩)
                (fun w => ⟨(p81bfr (k + 2) _ (by omega) (by omega)).trans ((p38bbhst (by omega) w).1.trans w38.2.1), (p81bfr (k + 3) _ (by omega) (by omega)).trans (g38b (by omega) w)⟩) (fun w h => absurd (by omega) h) (fun w i h1 h2 => (p81bbfrL (k + 4) _ (by omega)).trans (((p38bbhst (by omega) w).2.2.2.2 i h2).trans (by rw [w38.2.1]))) (fun w i h1 h2 => (p81bfr (k + 5) _ (by omega) (by omega)).trans ((p38bbhst (by omega) w).2.2.2.1 i h2))
                (fun x j h1 h2 => zxu (by omega) (zxu (by omega) (zxu (by omega) (zxu (by omega) rfl)))) (fun j => rfl)
                (fun w x j hx hj => (p81bfr x j (by omega) (by omega)).trans (p38bbbfr x j (by omega) (by omega) (by omega) (by omega) (by omega) (by omega) (by omega))) (fun w j hj => (p81bfr (k + 5) j (by omega) (by omega)).trans (p38bbbfr (k + 5) j (by omega) (by omega) (by omega) (by omega) (by omega) (by omega) (by omega))) (fun w j hj => (p81bfr (k + 6) j (by omega) (by omega)).trans (p38bbbfr (k + 6) j (by omega) (by omega) (by omega) (by omega) (by omega) (by omega) (by omega))) (fun w j hj => (p81bfr (k + 9) j (by omega) (by omega)).trans (p38bbbfr (k + 9) j (by omega) (by omega) (by omega) (by omega) (by omega) (by omega) (by omega))) (fun w j hj => (p81bbfrL (k + 4) j (by omega)).trans (p38bbbbfrL (k + 4) j (by omega))), (by rw [y2.1]; show _ = (((tVp c n 0 ((tKd c (typ s + D) (tSk tSm c n (typ s + D))).toNat) (tSk tSm c n (typ s + D)) (tFv ((tKd c (typ s + D) (tSk tSm c n (typ s + D))).toNat) (tyx s))) + (1 - 0) : Nat) : Int); omega), zxs (by omega) (zxe.trans (show _ = ((D + 1 : Nat) : Int) - 1 by omega))⟩))
              · exfalso
                rw [tyB_vf hc em.2.1 (show (tKd c (typ s + D) (tSk tSm c n (typ s + D))) ≠ 9 by omega) hz] at h9
                exact hz h9))
        | (exfalso; omega))
