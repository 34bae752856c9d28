/-! gn: SCRIPTS: the class's run: a statement, whichever -/
theorem sn_E_wst {hh D : Nat} (h29 : 29 ≤ hh) (hB : ZSnd hh 4 30 (T_E_wlk D)) : ZSnd (hh + 9) 4 38 (T_E_wst D) := fun d0 hd0 args I L R S Q hz gg => by
  obtain ⟨k, n, e, cl, fn, G, M, r, p, i, tq, j, cc, d, s, ha, hS, hR, hD, hk, hE, hsc, hC, hA, hcc, hW, hgo, hd, hr, hG, hp, h10, hQ⟩ := gg
  have hpt := wf_p hA hG
  have hij := wf_i hA hG
  have hpn : p < n := by omega
  have hi : i ≤ M.2.2.2 := by omega
  have hst := wf_s hA hG hp h10
  have hE2 := hE.2.1
  have hn4 := hE2.1
  have hlm := hW.2.2.2.1.2.1
  by_cases hl0 : s.2.1 = M.2.2.1 ∧ e p ≠ 58 ∧ e p ≠ 42
  · have hO := wf_O hst hl0.2.1
    exact (sn_E_wsN.up (Nat.le_trans (Nat.le_trans (show 29 ≤ 29 by decide) (Nat.le_trans h29 (Nat.le_add_right hh 9))) hd0)) d0 (Nat.le_refl d0) args I L R S Q hz ⟨k, n, e, p, s, M, (cc : Int), (d : Int), ha, hS, hR, hD, hk, hE, hsc, hW, hgo, hpn, hl0.1, hl0.2, fun v0 I0 L0 qhv qhW qhK qfr qfrL => hQ v0 p i _ I0 L0 (wkV_0 wkSt_no) (by rw [qhv]; exact ⟨by omega, by omega⟩) (wkT_0 wkSt_no (wkZ_n hO.1 hi (fun hs h9 bk => hO.2 _ (show hs.length ≤ 14 by omega)) hl0.1)) qhW (fun x _ => qhK 141 x (by decide) (by decide) (by decide) (by decide)) qfr qfrL⟩
  · rcases hst with ⟨hne, h1, hM, hlj, hlt, hGn⟩ | ⟨r1, q, t1, j1, hc, er, hcl, ⟨hq0, hq1, hq2⟩, hG1, hj1, hh9⟩
    · have hl : s.2.1 < M.2.2.1 := by
        have z : ¬ s.2.1 = M.2.2.1 := fun z => hl0 ⟨z, by omega, by omega⟩
        omega
      rcases stS_1 h1 with ⟨a1, a2, a3, a4, a5, a9⟩ | ⟨a1, a2, a3, a4, a9⟩ | ⟨a1, a2, a3, a4, a5, a6, a7, a9⟩ | ⟨a1, a2, a3, a4, a5, a9⟩ | ⟨a1, a2, a3, a9⟩
      · have b1 := eTx_lt hE2 (p := p + 1) (by omega)
        have b2 := eTx_lt hE2 (p := (exEx e 3 (p + 2)).2.1) (by omega)
        exact (sn_E_ws1.up (Nat.le_trans (Nat.le_trans (show 29 ≤ 29 by decide) (Nat.le_trans h29 (Nat.le_add_right hh 9))) hd0)) d0 (Nat.le_refl d0) args I L R S Q hz ⟨k, n, e, p, s, M, (cc : Int), (d : Int), ha, hS, hR, hD, hk, hE, hsc, hW, hgo, hpn, hl, a4, (Nat.le_of_lt b2), b1, ⟨a1, a2⟩, fun v0 I0 L0 qhv qhW qhK qfr qfrL => hQ v0 (stS e p).2.1 (i + 1) _ I0 L0 (wkV_1 (qhv.trans (by rw [a9]))) (by rw [qhv]; exact ⟨by omega, by omega⟩) (wkT_1 hGn hlt (wkZ_1 (hM.trans (stO_v ⟨a1, a2⟩).1) hgo hi hl ⟨by omega, by omega⟩)) qhW (fun x _ => qhK 141 x (by decide) (by decide) (by decide) (by decide)) qfr qfrL⟩
      · have b1 := eTx_lt hE2 (p := p + 1) (by omega)
        have hM2 := hM.trans (stO_c ⟨a1, a2, a3⟩).1
        rcases hA.2.1 (e p - 65).toNat (by omega) with ⟨f1, f2⟩ | ⟨qf, tf, kf, jf, f1, f2, f3, ⟨f4, f5⟩, f6, f7⟩
        · exact (sn_E_wsC6.up (Nat.le_trans (Nat.le_trans (show 7 ≤ 29 by decide) (Nat.le_trans h29 (Nat.le_add_right hh 9))) hd0)) d0 (Nat.le_refl d0) args I L R S Q hz ⟨k, n, e, cl, fn, G, M, p, i, cc, d, s, ha, hS, hR, hD, hk, hE, hsc, hC, hA, hcc, hW, hgo, hl, hpn, hi, ⟨a1, a2⟩, hM2, f1, f2, a1, fun v0 I0 L0 qhv qhW qhZ qhK qfr qfrL => hQ v0 (stS e p).2.1 (i + 1) _ I0 L0 (wkV_1 (qhv.trans (by rw [a9]))) (by rw [qhv]; exact ⟨by omega, by omega⟩) (wkT_1 hGn hlt qhZ) qhW qhK qfr qfrL⟩
        · have hjf := wf_i hA f6
          by_cases h2 : cc = 2
          · exact (sn_E_wsC5.up (Nat.le_trans (Nat.le_trans (show 7 ≤ 29 by decide) (Nat.le_trans h29 (Nat.le_add_right hh 9))) hd0)) d0 (Nat.le_refl d0) args I L R S Q hz ⟨k, n, e, cl, fn, G, M, p, i, cc, d, s, qf, kf, ha, hS, hR, hD, hk, hE, hsc, hC, hA, hcc, hW, hgo, hl, hpn, hi, ⟨a1, a2⟩, hM2, f1, f2, h2, a1, fun v0 I0 L0 qhv qhW qhZ qhK qfr qfrL => hQ v0 (stS e p).2.1 (i + 1) _ I0 L0 (wkV_1 (qhv.trans (by rw [a9]))) (by rw [qhv]; exact ⟨by omega, by omega⟩) (wkT_1 hGn hlt qhZ) qhW qhK qfr qfrL⟩
          · exact ((sn_E_wsCB h29 hB).up hd0) d0 (Nat.le_refl d0) args I L R S Q hz ⟨k, n, e, cl, fn, G, M, p, i, cc, d, s, qf, kf, tf, jf, ha, hS, hR, hD, hk, hE, hsc, hC, hA, hcc, hW, hgo, hl, hpn, hi, ⟨a1, a2⟩, hM2, f1, f2, (by omega), f3, ⟨f4, f5⟩, f6, f7, hjf.2, hd, (by omega), a1, fun v0 s0 I0 L0 qhv qhW qhZ qhK qfr qfrL => hQ v0 (stS e p).2.1 (i + 1) s0 I0 L0 (wkV_1 (qhv.trans (by rw [a9]))) (by rw [qhv]; exact ⟨by omega, by omega⟩) (wkT_1 hGn hlt qhZ) qhW qhK qfr qfrL⟩
      · have b1 := eTx_lt hE2 (p := (exAt e 3 (p + 1)).2.1 + 2) (by omega)
        have b2 := eTx_lt hE2 (p := (exEx e 3 ((exAt e 3 (p + 1)).2.1 + 3)).2.1) (by omega)
        exact (sn_E_ws2.up (Nat.le_trans (Nat.le_trans (show 29 ≤ 29 by decide) (Nat.le_trans h29 (Nat.le_add_right hh 9))) hd0)) d0 (Nat.le_refl d0) args I L R S Q hz ⟨k, n, e, p, s, M, (cc : Int), (d : Int), ha, hS, hR, hD, hk, hE, hsc, hW, hgo, hpn, hl, a2, a6, b1, a4, (Nat.le_of_lt b2), a1, fun v0 I0 L0 qhv qhW qhK qfr qfrL => hQ v0 (stS e p).2.1 (i + 1) _ I0 L0 (wkV_1 (qhv.trans (by rw [a9]))) (by rw [qhv]; exact ⟨by omega, by omega⟩) (wkT_1 hGn hlt (wkZ_2 (hM.trans (stO_a a1).1) hgo hi hl ⟨by omega, by omega⟩)) qhW (fun x _ => qhK 141 x (by decide) (by decide) (by decide) (by decide)) qfr qfrL⟩
      · have b1 := eTx_lt hE2 (p := (exAt e 3 (p + 1)).2.1) (by omega)
        have b2 := eTx_lt hE2 (p := (exEx e 3 ((exAt e 3 (p + 1)).2.1 + 1)).2.1) (by omega)
        exact (sn_E_ws3.up (Nat.le_trans (Nat.le_trans (show 29 ≤ 29 by decide) (Nat.le_trans h29 (Nat.le_add_right hh 9))) hd0)) d0 (Nat.le_refl d0) args I L R S Q hz ⟨k, n, e, p, s, M, (cc : Int), (d : Int), ha, hS, hR, hD, hk, hE, hsc, hW, hgo, hpn, hl, a2, a4, b1, (Nat.le_of_lt b2), a1, fun v0 I0 L0 qhv qhW qhK qfr qfrL => hQ v0 (stS e p).2.1 (i + 1) _ I0 L0 (wkV_1 (qhv.trans (by rw [a9]))) (by rw [qhv]; exact ⟨by omega, by omega⟩) (wkT_1 hGn hlt (wkZ_3' (hM.trans (stO_q a1).1) hgo hi hl)) qhW (fun x _ => qhK 141 x (by decide) (by decide) (by decide) (by decide)) qfr qfrL⟩
      · have b2 := eTx_lt hE2 (p := (exEx e 3 (p + 1)).2.1) (by omega)
        have b1 : p < (exEx e 3 (p + 1)).2.1 := by
          have z := exEx_ok hE2 (r := 3) (p := p + 1) hpn
          unfold exOk at z
          omega
        have hM2 := hM.trans (stO_s a1).1
        rcases a1 with a1 | a1 | a1 | a1 | a1 | a1
        · rw [a1] at hM2
          have hM3 : M.1 i = (4, (p : Int), 0, [], (exEx e 3 (p + 1)).2.2, 0) := hM2
          exact (sn_E_ws4.up (Nat.le_trans (Nat.le_trans (show 29 ≤ 29 by decide) (Nat.le_trans h29 (Nat.le_add_right hh 9))) hd0)) d0 (Nat.le_refl d0) args I L R S Q hz ⟨k, n, e, p, s, M, (cc : Int), (d : Int), ha, hS, hR, hD, hk, hE, hsc, hW, hgo, hpn, hl, a2, (Nat.le_of_lt b2), hpn, a1, fun v0 I0 L0 qhv qhW qhK qfr qfrL => hQ v0 (stS e p).2.1 (i + 1) _ I0 L0 (wkV_1 (qhv.trans (by rw [a9]))) (by rw [qhv]; exact ⟨by omega, by omega⟩) (wkT_1 hGn hlt (wkZ_4 hM3 hgo hi hl)) qhW (fun x _ => qhK 141 x (by decide) (by decide) (by decide) (by decide)) qfr qfrL⟩
        · rw [a1] at hM2
          have hM3 : M.1 i = (12, (p : Int), 0, [], (exEx e 3 (p + 1)).2.2, 0) := hM2
          exact (sn_E_ws12.up (Nat.le_trans (Nat.le_trans (show 29 ≤ 29 by decide) (Nat.le_trans h29 (Nat.le_add_right hh 9))) hd0)) d0 (Nat.le_refl d0) args I L R S Q hz ⟨k, n, e, p, s, M, (cc : Int), (d : Int), ha, hS, hR, hD, hk, hE, hsc, hW, hgo, hpn, hl, a2, (Nat.le_of_lt b2), hpn, a1, fun v0 I0 L0 qhv qhW qhK qfr qfrL => hQ v0 (stS e p).2.1 (i + 1) _ I0 L0 (wkV_1 (qhv.trans (by rw [a9]))) (by rw [qhv]; exact ⟨by omega, by omega⟩) (wkT_1 hGn hlt (wkZ_12 hM3 hgo hi hl)) qhW (fun x _ => qhK 141 x (by decide) (by decide) (by decide) (by decide)) qfr qfrL⟩
        · rw [a1] at hM2
          have hM3 : M.1 i = (13, (p : Int), 0, [], (exEx e 3 (p + 1)).2.2, 0) := hM2
          have h12 := hW.1.2.1.2
          by_cases h2 : s.1.1.2.1 = 12
          · exact (sn_E_ws13N.up (Nat.le_trans (Nat.le_trans (show 29 ≤ 29 by decide) (Nat.le_trans h29 (Nat.le_add_right hh 9))) hd0)) d0 (Nat.le_refl d0) args I L R S Q hz ⟨k, n, e, p, s, M, (cc : Int), (d : Int), ha, hS, hR, hD, hk, hE, hsc, hW, hgo, hpn, hl, a2, (Nat.le_of_lt b2), hpn, a1, h2, fun v0 I0 L0 qhv qhW qhK qfr qfrL => hQ v0 (stS e p).2.1 (i + 1) _ I0 L0 (wkV_1 (qhv.trans (by rw [a9]))) (by rw [qhv]; exact ⟨by omega, by omega⟩) (wkT_1 hGn hlt (wkZ_13 hM3 hgo hi hl)) qhW (fun x _ => qhK 141 x (by decide) (by decide) (by decide) (by decide)) qfr qfrL⟩
          · exact (sn_E_ws13Y.up (Nat.le_trans (Nat.le_trans (show 29 ≤ 29 by decide) (Nat.le_trans h29 (Nat.le_add_right hh 9))) hd0)) d0 (Nat.le_refl d0) args I L R S Q hz ⟨k, n, e, p, s, M, (cc : Int), (d : Int), ha, hS, hR, hD, hk, hE, hsc, hW, hgo, hpn, hl, a2, (Nat.le_of_lt b2), hpn, a1, (by omega), fun v0 I0 L0 qhv qhW qhK qfr qfrL => hQ v0 (stS e p).2.1 (i + 1) _ I0 L0 (wkV_1 (qhv.trans (by rw [a9]))) (by rw [qhv]; exact ⟨by omega, by omega⟩) (wkT_1 hGn hlt (wkZ_13 hM3 hgo hi hl)) qhW (fun x _ => qhK 141 x (by decide) (by decide) (by decide) (by decide)) qfr qfrL⟩
        · rw [a1] at hM2
          have hM3 : M.1 i = (14, (p : Int), 0, [], (exEx e 3 (p + 1)).2.2, 0) := hM2
          exact (sn_E_ws14.up (Nat.le_trans (Nat.le_trans (show 29 ≤ 29 by decide) (Nat.le_trans h29 (Nat.le_add_right hh 9))) hd0)) d0 (Nat.le_refl d0) args I L R S Q hz ⟨k, n, e, p, s, M, (cc : Int), (d : Int), i, ha, hS, hR, hD, hk, hE, hsc, hW, hgo, hpn, hl, a2, a3, b1, b2, a1, hM, fun v0 I0 L0 qhv qhW qhK qfr qfrL => hQ v0 (stS e p).2.1 (i + 1) _ I0 L0 (wkV_1 (qhv.trans (by rw [a9]))) (by rw [qhv]; exact ⟨by omega, by omega⟩) (wkT_1 hGn hlt (wkZ_14 hM3 hgo hi hl)) qhW (fun x _ => qhK 141 x (by decide) (by decide) (by decide) (by decide)) qfr qfrL⟩
        · rw [a1] at hM2
          have hM3 : M.1 i = (15, (p : Int), 0, [], (exEx e 3 (p + 1)).2.2, 0) := hM2
          exact (sn_E_ws15.up (Nat.le_trans (Nat.le_trans (show 29 ≤ 29 by decide) (Nat.le_trans h29 (Nat.le_add_right hh 9))) hd0)) d0 (Nat.le_refl d0) args I L R S Q hz ⟨k, n, e, p, s, M, (cc : Int), (d : Int), ha, hS, hR, hD, hk, hE, hsc, hW, hgo, hpn, hl, a2, a3, b1, b2, a1, fun v0 I0 L0 qhv qhW qhK qfr qfrL => hQ v0 (stS e p).2.1 (i + 1) _ I0 L0 (wkV_1 (qhv.trans (by rw [a9]))) (by rw [qhv]; exact ⟨by omega, by omega⟩) (wkT_1 hGn hlt (wkZ_15 hM3 hgo hi hl)) qhW (fun x _ => qhK 141 x (by decide) (by decide) (by decide) (by decide)) qfr qfrL⟩
        · rw [a1] at hM2
          have hM3 : M.1 i = (16, (p : Int), 0, [], (exEx e 3 (p + 1)).2.2, 0) := hM2
          by_cases h2 : evV s.1.1 (exEx e 3 (p + 1)).2.2 < 0 ∨ 20 < evV s.1.1 (exEx e 3 (p + 1)).2.2
          · exact (sn_E_ws16N.up (Nat.le_trans (Nat.le_trans (show 29 ≤ 29 by decide) (Nat.le_trans h29 (Nat.le_add_right hh 9))) hd0)) d0 (Nat.le_refl d0) args I L R S Q hz ⟨k, n, e, p, s, M, (cc : Int), (d : Int), ha, hS, hR, hD, hk, hE, hsc, hW, hgo, hpn, hl, a2, (Nat.le_of_lt b2), hpn, a1, h2, fun v0 I0 L0 qhv qhW qhK qfr qfrL => hQ v0 (stS e p).2.1 (i + 1) _ I0 L0 (wkV_1 (qhv.trans (by rw [a9]))) (by rw [qhv]; exact ⟨by omega, by omega⟩) (wkT_1 hGn hlt (wkZ_16 hM3 hgo hi hl)) qhW (fun x _ => qhK 141 x (by decide) (by decide) (by decide) (by decide)) qfr qfrL⟩
          · exact (sn_E_ws16Y.up (Nat.le_trans (Nat.le_trans (show 29 ≤ 29 by decide) (Nat.le_trans h29 (Nat.le_add_right hh 9))) hd0)) d0 (Nat.le_refl d0) args I L R S Q hz ⟨k, n, e, p, s, M, (cc : Int), (d : Int), ha, hS, hR, hD, hk, hE, hsc, hW, hgo, hpn, hl, a2, (Nat.le_of_lt b2), hpn, a1, (by omega), fun v0 I0 L0 qhv qhW qhK qfr qfrL => hQ v0 (stS e p).2.1 (i + 1) _ I0 L0 (wkV_1 (qhv.trans (by rw [a9]))) (by rw [qhv]; exact ⟨by omega, by omega⟩) (wkT_1 hGn hlt (wkZ_16 hM3 hgo hi hl)) qhW (fun x _ => qhK 141 x (by decide) (by decide) (by decide) (by decide)) qfr qfrL⟩
    · have hj1t : j1 ≤ M.2.2.2 := by omega
      have hr1 : d + 1 + r1 + 4 ≤ 6 + 2 * cc := by omega
      rcases hh9 with ⟨c1, ⟨c2, c3⟩, c4, c5, c6⟩ | ⟨t2, j2, c1, ⟨c2, c3⟩, c4, c5, ⟨c6, c7⟩, c8, ⟨c9, c10⟩, c11, c12, c13⟩ | ⟨c1, ⟨c2, c3⟩, c4, ⟨c5, c6⟩, c7, c8⟩ | ⟨c1, c2, c3, c4, c5, c6⟩ | ⟨t2, j2, c1, c2, ⟨c3, c4⟩, c5, c6, ⟨c7, c8⟩, c9, c10, c11, c12⟩ | ⟨c1, c2, ⟨c3, c4⟩, c5, c6⟩
      · subst c3
        exact ((sn_E_wsQN h29 hB).up hd0) d0 (Nat.le_refl d0) args I L R S Q hz ⟨k, n, e, cl, fn, G, M, r1, p, i, t1, j1, cc, d, s, ha, hS, hR, hD, hk, hE, hsc, hC, hA, hcc, hW, hgo, (by have z : ¬ s.2.1 = M.2.2.1 := fun z => hl0 ⟨z, by omega, by omega⟩; omega), hd, hr1, hpn, c2, hcl, ⟨hq1, by omega⟩, hi, hG1, c4, c5, c1, fun v0 s0 I0 L0 qhv qhW qhZ qhK qfr qfrL => hQ v0 (t1 + 1) j1 s0 I0 L0 (wkV_1 (qhv.trans (by omega))) (by rw [qhv]; exact ⟨by omega, by omega⟩) (wkT_1 c6 (by omega) qhZ) qhW qhK qfr qfrL⟩
      · subst c3
        exact ((sn_E_wsQE h29 hB).up hd0) d0 (Nat.le_refl d0) args I L R S Q hz ⟨k, n, e, cl, fn, G, M, r1, p, i, t1, j1, cc, d, s, t2, j2, ha, hS, hR, hD, hk, hE, hsc, hC, hA, hcc, hW, hgo, (by have z : ¬ s.2.1 = M.2.2.1 := fun z => hl0 ⟨z, by omega, by omega⟩; omega), hd, hr1, hpn, c2, hcl, ⟨hq1, by omega⟩, hi, hG1, c4, c5, ⟨c6, c7⟩, hj1t, c8, ⟨c9, by omega⟩, c11, c1, fun v0 s0 I0 L0 qhv qhW qhZ qhK qfr qfrL => hQ v0 (t2 + 1) j2 s0 I0 L0 (wkV_1 (qhv.trans (by omega))) (by rw [qhv]; exact ⟨by omega, by omega⟩) (wkT_1 c13 (by omega) qhZ) qhW qhK qfr qfrL⟩
      · subst c3
        exact ((sn_E_wsLp h29 hB).up hd0) d0 (Nat.le_refl d0) args I L R S Q hz ⟨k, n, e, cl, fn, G, M, r1, p, i, t1, j1, cc, d, s, ha, hS, hR, hD, hk, hE, hsc, hC, hA, hcc, hW, hgo, hd, hr1, hpn, c2, hcl, ⟨hq1, by omega⟩, hi, hG1, c4, ⟨c5, c6⟩, hj1t, c1, fun v0 s0 I0 L0 qhv qhrv qhW qhZ qhK qfr qfrL => hQ v0 (t1 + 1) (j1 + 1) s0 I0 L0 qhv qhrv (wkT_1 c8 (by omega) qhZ) qhW qhK qfr qfrL⟩
      · rw [c2] at hcl hq1 hG1 hq0
        exact ((sn_E_wsA h29 hB).up hd0) d0 (Nat.le_refl d0) args I L R S Q hz ⟨k, n, e, cl, fn, G, M, r1, p, i, t1, j1, cc, d, s, ha, hS, hR, hD, hk, hE, hsc, hC, hA, hcc, hW, hgo, (by have z : ¬ s.2.1 = M.2.2.1 := fun z => hl0 ⟨z, by omega, by omega⟩; omega), hpn, hi, hd, hr1, hj1t, hcl, ⟨hq1, by omega⟩, hG1, c3, c4, c1, fun v0 s0 I0 L0 qhv qhW qhZ qhK qfr qfrL => hQ v0 (t1 + 1) (j1 + 1) s0 I0 L0 (wkV_1 (qhv.trans (by omega))) (by rw [qhv]; exact ⟨by omega, by omega⟩) (wkT_1 c6 (by omega) qhZ) qhW qhK qfr qfrL⟩
      · subst c2
        exact ((sn_E_wsT h29 hB).up hd0) d0 (Nat.le_refl d0) args I L R S Q hz ⟨k, n, e, cl, fn, G, M, r1, p, i, t1, j1, cc, d, s, t2, j2, ha, hS, hR, hD, hk, hE, hsc, hC, hA, hcc, hW, hgo, (by have z : ¬ s.2.1 = M.2.2.1 := fun z => hl0 ⟨z, by omega, by omega⟩; omega), hpn, hi, hd, hr1, hj1t, hcl, ⟨hq1, by omega⟩, hG1, c6, ⟨c7, by omega⟩, c9, ⟨c3, c4⟩, c5, c10, (by omega), c1, fun v0 s0 I0 L0 qhv qhW qhZ qhK qfr qfrL => hQ v0 (t2 + 1) (j2 + 1) s0 I0 L0 (wkV_1 (qhv.trans (by omega))) (by rw [qhv]; exact ⟨by omega, by omega⟩) (wkT_1 c12 (by omega) qhZ) qhW qhK qfr qfrL⟩
      · subst c2
        exact (sn_E_ws58.up (Nat.le_trans (Nat.le_trans (show 4 ≤ 29 by decide) (Nat.le_trans h29 (Nat.le_add_right hh 9))) hd0)) d0 (Nat.le_refl d0) args I L R S Q hz ⟨k, n, e, cl, fn, G, M, p, t1, (cc : Int), (d : Int), ha, hS, hR, hD, hk, hE, hsc, hC, (by omega), c1, hcl, (by omega), fun v0 qhv => hQ v0 (t1 + 1) (j1 + 1) s I L (wkV_1 (qhv.trans (by omega))) (by rw [qhv]; exact ⟨by omega, by omega⟩) (wkT_1 c6 (by omega) (wkZ_g hgo c3 c4 hi)) hW (fun _ _ => rfl) (fun _ _ _ _ _ _ _ _ _ _ _ _ _ _ => rfl) (fun _ _ _ _ _ _ _ => rfl)⟩
/-- the row's walk, at whatever depth -/
theorem wlk_0 {D : Nat} (h3 : D ≤ 3) : ZSnd 29 4 30 (T_E_wlk D) := fun d0 hd0 args I L R S Q hz gg => by
  obtain ⟨k, n, e, cl, fn, G, M, r, p, i, tq, j, cc, d, s, tt, ha, hS, hR, hD, hk, hE, hsc, hC, hA, hcc, hW, hgo, hd, hr, hG, htt, ht4, hQ⟩ := gg
  exfalso
  omega
theorem sn_E_wlk : ∀ {m : Nat}, ZSnd (29 + 14 * m) 4 30 (T_E_wlk (3 + m))
  | 0 => wlk_0 (Nat.le_refl 3)
  | m + 1 => by
    have w := sn_E_wlkS (sn_E_wst (hh := 29 + 14 * m) (D := 3 + m) (Nat.le_add_right 29 _) (sn_E_wlk (m := m)))
    exact w
