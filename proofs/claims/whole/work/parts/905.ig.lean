
/-- the reference's side behind a text: what every case has -/
theorem lwB_t2 {σ : LwS} {I L I' L' : ZI} {R R' : ZR} {S S' : ZS} {d : Int} {x : RdL} (hP : lwB σ I L R S) (hI : lwI (lwr σ d x)) (sg : zSg S S') (hRs : zRs R') (hrm : lwRm (lwr σ d x) S') (hD : lwD R') (h0 : I' 165 0 = d) (hT : zTB [] I') (hR : bR x I' L' R' S') (hf : ∀ c j : Nat, c < S.2.1 → ¬ (c = 165 ∧ (j = 0 ∨ j = 2 ∨ (4 ≤ j ∧ j ≤ 6) ∨ j = 11)) → ¬ (168 ≤ c ∧ c ≤ 196) → I' c j = I c j) (hl : ∀ c j : Nat, c < S.2.1 → ¬ (168 ≤ c ∧ c ≤ 196) → L' c j = L c j) (hr : ∀ c j : Nat, c < S.2.1 → ¬ (c = 165 ∧ j = 7) → R' c j = R c j) (hs0 : 302 ≤ S.2.1) : lwB (lwr σ d x) I' L' R' S' := by
  obtain ⟨g0, g1, g3', g4, g5, g6, g7, g8, g9, g10⟩ := hP
  exact ⟨hI, ⟨hRs, hrm, hD⟩, ⟨h0, hT⟩, hR, bB_fr g5 sg (fun c j w => hf c j (by omega) (by omega) (by omega)) ⟨hr _ _ (by omega) (by omega), hr _ _ (by omega) (by omega)⟩ (fun g p _ _ w1 w2 w3 => ⟨fun c j w => hf c j (by omega) (by omega) (by omega), fun c j w => ⟨hl c j (by omega) (by omega), hr c j (by omega) (by omega)⟩⟩), bU_fr g6 (fun c j w => hf c j (by omega) (by omega) (by omega)), bC_fr g7 sg (by rw [hf _ _ (by omega) (by omega) (by omega)]; exact g7.1.2.1) (fun j w => by rw [hf _ _ (by omega) (by omega) (by omega)]; exact g7.1.2.2 j w) (fun c j w => hf c j (by omega) (by omega) (by omega)) ⟨hr _ _ (by omega) (by omega), hr _ _ (by omega) (by omega)⟩ (fun p w0 w1 w2 => ⟨fun c j w => hf c j (by omega) (by omega) (by omega), fun c j w => hl c j (by omega) (by omega), fun c j w => hr c j (by omega) (by omega)⟩), bS_fr g8 (fun c j w => hf c j (by omega) (by omega) (by omega)) (fun c j w => hl c j (by omega) (by omega)), bX_fr g9 (fun c j w => hf c j (by omega) (by omega) (by omega)), bE_fr g10 (fun c j w => hf c j (by omega) (by omega) (by omega))⟩
theorem lwB_cS {σ : LwS} {I L : ZI} {R : ZR} {S : ZS} (h : lwB σ I L R S) : ∀ c : Nat, R 165 31 = some c → c + 32 ≤ S.2.1 := fun c hc' => by
  have g7 : bC (lwC σ) I L R S := h.2.2.2.2.2.2.1
  by_cases hm : (lwC σ).1 = 0
  · rw [g7.2.1 hm] at hc'; exact absurd hc' (by simp)
  · obtain ⟨k, ⟨k1, k2, k3, k4, k5⟩, _⟩ := g7.2.2 hm
    have e : k = c := Option.some.inj (k1.symm.trans hc')
    have : k + 14 + 18 ≤ S.2.1 := k4.2.1
    omega
theorem lwB_gS {σ : LwS} {I L : ZI} {R : ZR} {S : ZS} (h : lwB σ I L R S) : (∀ g : Nat, R 165 12 = some g → g + 19 ≤ S.2.1) ∧ ∀ p : Nat, R 165 13 = some p → p + 23 ≤ S.2.1 := by
  have g5 : bB (lwBo σ) I L R S := h.2.2.2.2.1
  by_cases hb : (lwBo σ).1 = 0
  · exact ⟨fun g w => by rw [(g5.2.1 hb).1] at w; exact absurd w (by simp), fun g w => by rw [(g5.2.1 hb).2] at w; exact absurd w (by simp)⟩
  · obtain ⟨g, q, ⟨g1, g2, g3⟩, ⟨g4, g5', g6, g7⟩, _⟩ := g5.2.2 hb
    have z1 : g + 19 ≤ S.2.1 := g2.2.1
    have z2 : q + 23 ≤ S.2.1 := g5'.2.1
    exact ⟨fun g' w => by have e : g = g' := Option.some.inj (g1.symm.trans w); omega, fun g' w => by have e : q = g' := Option.some.inj (g4.symm.trans w); omega⟩
/-- a new drawing lies apart -/
theorem lwD_q {σ : LwS} {I L : ZI} {R R' : ZR} {S : ZS} {q : Nat} (h : lwB σ I L R S) (r7 : R' 165 7 = some q) (hq : q = S.2.1) (hr : ∀ j : Nat, ¬ j = 7 → R' 165 j = R 165 j) : lwD R' := by
  obtain ⟨D1, D2, D3, D4, D5⟩ := h.2.1.2.2
  have c1 := lwB_cS h
  obtain ⟨c2, c3⟩ := lwB_gS h
  unfold lwD
  rw [r7, hr 12 (by omega), hr 31 (by omega), hr 13 (by omega)]
  refine ⟨D1, fun g p w1 w2 => ?_, fun c p w1 w2 => ?_, D4, fun p p' w1 w2 => ?_⟩
  · have := c2 g w1; have e : q = p := Option.some.inj w2; omega
  · have := c1 c w1; have e : q = p := Option.some.inj w2; omega
  · have := c3 p w1; have e : q = p' := Option.some.inj w2; omega
set_option maxHeartbeats 4000000 in
theorem lwB2 : lwCB 2 lf2 := ZSnd.alt6 (sn_Y_shB.up (by decide)) (sn_Y_shF.up (by decide)) (sn_Y_shX0.up (by decide)) (sn_Y_shX1.up (by decide)) (sn_Y_shG0.up (by decide)) (sn_Y_shG1.up (by decide)) (by
  rintro args I L R S Q hz ⟨σ, a1, a2, a3, a4, a5, he, hr, hS, hc, hP, hQ⟩
  have hR : iR (lwRd σ) := hP.1.2.1
  have hR1 := hR.1
  have hs0 : 302 ≤ S.2.1 := hS.1
  by_cases hf0 : 0 ≤ a1 ∧ a1 ≤ 1
  · obtain ⟨⟨⟨h5, h6⟩, h168, h181⟩, hz0, hz1⟩ : bR (lwRd σ) I L R S := hP.2.2.2.1
    have t1 : 0 ≤ (((lwRd σ).1 : Nat) : Int) ∧ (((lwRd σ).1 : Nat) : Int) ≤ 24 ∧ 0 ≤ (((lwRd σ).2.1 : Nat) : Int) ∧ (((lwRd σ).2.1 : Nat) : Int) ≤ 4 := by omega
    by_cases hl : (lwRd σ).1 = 24 ∨ (lwRd σ).2.1 = 4
    · rw [show lf2 σ a1 a2 a3 a4 a5 = (lwd σ 1, -1) from (if_neg (fun w => w hf0)).trans (if_pos hl)] at hQ
      refine Or.inr (Or.inl ⟨a1, ((lwRd σ).1 : Int), ((lwRd σ).2.1 : Int), he, hS, hP.2.1.1, hf0, h5, h6, t1, by omega, ?_⟩)
      intro I' h3 hf
      exact hQ _ _ _ _ (lwB_d hP (by decide) h3 hf) (zfB_I (fun c j w => hf c j (by omega)))
    · have zrm : S.2.1 ≤ 302 + 23 * (lwRd σ).2.1 + 19 * σ.2.2.1.1 + 54 * σ.2.2.2.2.1.1 ∧ S.2.2 ≤ 500000 + 44429 * (lwRd σ).2.1 + 18613 * σ.2.2.1.1 + 32451 * σ.2.2.2.2.1.1 := hP.2.1.2.1
      by_cases hF : rdF (lwTx σ) (bF a1) = -1
      · have ey : lf2 σ a1 a2 a3 a4 a5 = lf2y σ a1 := (if_neg (fun w => w hf0)).trans ((if_neg hl).trans (if_pos hF))
        have hI := hc.2
        rw [ey] at hQ hI
        have room : ∀ S' : ZS, S'.2.1 = S.2.1 + 23 ∧ S'.2.2 = S.2.2 + 44429 → lwRm (lf2y σ a1).1 S' := fun S' w => by
          show S'.2.1 ≤ 302 + 23 * ((lwRd σ).2.1 + 1) + 19 * σ.2.2.1.1 + 54 * σ.2.2.2.2.1.1 ∧ S'.2.2 ≤ 500000 + 44429 * ((lwRd σ).2.1 + 1) + 18613 * σ.2.2.1.1 + 32451 * σ.2.2.2.2.1.1
          omega
        rcases (show a1 = 0 ∨ a1 = 1 by omega) with e | e
        · subst e
          refine Or.inr (Or.inr (Or.inr (Or.inr (Or.inl ⟨σ.1.2, ((lwRd σ).1 : Int), ((lwRd σ).2.1 : Int), he, hS, hP.2.1.1, hP.2.2.1.2, hP.1.1.2, h5, h6, t1, by omega, h168, hF, ?_⟩))))
          intro q v I' L' R' S' hv h0 hx hT h5' h6' h4' sg hdy hRs hq r7 hrm hO hU h27 hN hJ hf hl' hrf
          have f9 : ∀ c j : Nat, c < S.2.1 → ¬ (c = 165 ∧ (j = 0 ∨ j = 2 ∨ (4 ≤ j ∧ j ≤ 6) ∨ j = 11)) → ¬ (169 ≤ c ∧ c ≤ 179) → ¬ (194 ≤ c ∧ c ≤ 196) → ¬ (c = 168 ∧ j ≠ 1) → I' c j = I c j := fun c j w0 w1 w2 w3 w4 => hf c j (by omega) (by omega) (by omega) (by omega) (by omega) (by omega) (by omega) (by omega) (by omega) (by omega) (by omega) (by omega) (by omega) (by omega) (by omega) (by omega) (by omega) (by omega) (by omega) (by omega) (by omega) (by omega) (by omega) (by omega) (by omega) (by omega) (by omega) (by omega) (by omega) (by omega) (by omega) (by omega) (by omega) (by omega) (by omega)
          have l9 : ∀ c j : Nat, c < S.2.1 → ¬ (168 ≤ c ∧ c ≤ 180) → L' c j = L c j := fun c j w0 w1 => hl' c j (by omega) (by omega) (by omega)
          have r9 : ∀ c j : Nat, c < S.2.1 → ¬ (c = 165 ∧ j = 7) → R' c j = R c j := fun c j w0 w1 => hrf c j (by omega) (by omega)
          subst hv
          refine hQ I' L' R' S' (lwB_t2 hP hI sg hRs (room S' hrm) (lwD_q hP r7 hq.2 (fun j w => r9 165 j (by omega) (by omega))) h0 hT ⟨⟨⟨h5'.trans (by show (((lwRd σ).1 : Nat) : Int) + 1 = (((lwRd σ).1 + 1 : Nat) : Int); omega), h6'.trans (by show (((lwRd σ).2.1 : Nat) : Int) + 1 = (((lwRd σ).2.1 + 1 : Nat) : Int); omega)⟩, (f9 168 1 (by omega) (by omega) (by omega) (by omega) (by omega)).trans h168, (f9 181 1 (by omega) (by omega) (by omega) (by omega) (by omega)).trans h181⟩, fun w => absurd w (Nat.succ_ne_zero _), fun _ => ⟨h4', fun _ => ⟨hO, hU, fun w _ => absurd (h27.symm.trans w) (by decide)⟩, fun w => absurd (show (0 : Int) = 1 from w) (by decide), q, r7, hdy, hq.1, hN, hJ⟩⟩ (fun c j w0 w1 w2 => f9 c j w0 (by omega) (by omega) (by omega) (by omega)) (fun c j w0 w1 => l9 c j w0 (by omega)) (fun c j w0 w1 => r9 c j w0 w1) hs0) ⟨sg, fun c j w => ⟨f9 c j (by omega) (by omega) (by omega) (by omega) (by omega), l9 c j (by omega) (by omega), r9 c j (by omega) (by omega)⟩⟩
        · subst e
          refine Or.inr (Or.inr (Or.inr (Or.inr (Or.inr ⟨σ.1.2, ((lwRd σ).1 : Int), ((lwRd σ).2.1 : Int), he, hS, hP.2.1.1, hP.2.2.1.2, hP.1.1.2, h5, h6, t1, by omega, h181, hF, ?_⟩))))
          intro q v I' L' R' S' hv h0 hx hT h5' h6' h4' sg hdy hRs hq r7 hrm hO hU h27 hN hJ hf hl' hrf
          have f9 : ∀ c j : Nat, c < S.2.1 → ¬ (c = 165 ∧ (j = 0 ∨ j = 2 ∨ (4 ≤ j ∧ j ≤ 6) ∨ j = 11)) → ¬ (182 ≤ c ∧ c ≤ 192) → ¬ (194 ≤ c ∧ c ≤ 196) → ¬ (c = 181 ∧ j ≠ 1) → I' c j = I c j := fun c j w0 w1 w2 w3 w4 => hf c j (by omega) (by omega) (by omega) (by omega) (by omega) (by omega) (by omega) (by omega) (by omega) (by omega) (by omega) (by omega) (by omega) (by omega) (by omega) (by omega) (by omega) (by omega) (by omega) (by omega) (by omega) (by omega) (by omega) (by omega) (by omega) (by omega) (by omega) (by omega) (by omega) (by omega) (by omega) (by omega) (by omega) (by omega) (by omega)
          have l9 : ∀ c j : Nat, c < S.2.1 → ¬ (181 ≤ c ∧ c ≤ 193) → L' c j = L c j := fun c j w0 w1 => hl' c j (by omega) (by omega) (by omega)
          have r9 : ∀ c j : Nat, c < S.2.1 → ¬ (c = 165 ∧ j = 7) → R' c j = R c j := fun c j w0 w1 => hrf c j (by omega) (by omega)
          subst hv
          refine hQ I' L' R' S' (lwB_t2 hP hI sg hRs (room S' hrm) (lwD_q hP r7 hq.2 (fun j w => r9 165 j (by omega) (by omega))) h0 hT ⟨⟨⟨h5'.trans (by show (((lwRd σ).1 : Nat) : Int) + 1 = (((lwRd σ).1 + 1 : Nat) : Int); omega), h6'.trans (by show (((lwRd σ).2.1 : Nat) : Int) + 1 = (((lwRd σ).2.1 + 1 : Nat) : Int); omega)⟩, (f9 168 1 (by omega) (by omega) (by omega) (by omega) (by omega)).trans h168, (f9 181 1 (by omega) (by omega) (by omega) (by omega) (by omega)).trans h181⟩, fun w => absurd w (Nat.succ_ne_zero _), fun _ => ⟨h4', fun w => absurd (show (1 : Int) = 0 from w) (by decide), fun _ => ⟨hO, hU, fun w _ => absurd (h27.symm.trans w) (by decide)⟩, q, r7, hdy, hq.1, hN, hJ⟩⟩ (fun c j w0 w1 w2 => f9 c j w0 (by omega) (by omega) (by omega) (by omega)) (fun c j w0 w1 => l9 c j w0 (by omega)) (fun c j w0 w1 => r9 c j w0 w1) hs0) ⟨sg, fun c j w => ⟨f9 c j (by omega) (by omega) (by omega) (by omega) (by omega), l9 c j (by omega) (by omega), r9 c j (by omega) (by omega)⟩⟩
      · have en : lf2 σ a1 a2 a3 a4 a5 = lf2n σ a1 := (if_neg (fun w => w hf0)).trans ((if_neg hl).trans (if_neg hF))
        have hI := hc.2
        rw [en] at hQ hI
        have room : lwRm (lf2n σ a1).1 S := zrm
        rcases (show a1 = 0 ∨ a1 = 1 by omega) with e | e
        · subst e
          refine Or.inr (Or.inr (Or.inl ⟨σ.1.2, ((lwRd σ).1 : Int), ((lwRd σ).2.1 : Int), he, hS, hP.2.1.1, hP.2.2.1.2, hP.1.1.2, h5, h6, t1, by omega, h168, hF, ?_⟩))
          intro v I' L' hv h0 hx hT h5' kp hf hl'
          have f9 : ∀ c j : Nat, ¬ (c = 165 ∧ (j = 0 ∨ j = 2 ∨ j = 5)) → ¬ (169 ≤ c ∧ c ≤ 179) → ¬ (194 ≤ c ∧ c ≤ 196) → ¬ (c = 168 ∧ j ≠ 1 ∧ j ≠ 26) → I' c j = I c j := fun c j w1 w2 w3 w4 => hf c j (by omega) (by omega) (by omega) (by omega) (by omega) (by omega) (by omega) (by omega) (by omega) (by omega) (by omega) (by omega) (by omega) (by omega) (by omega) (by omega) (by omega) (by omega) (by omega) (by omega) (by omega) (by omega) (by omega) (by omega) (by omega) (by omega) (by omega) (by omega)
          have l9 : ∀ c j : Nat, ¬ (168 ≤ c ∧ c ≤ 180) → L' c j = L c j := fun c j w1 => hl' c j (by omega) (by omega)
          subst hv
          refine hQ I' L' R S (lwB_t2 hP hI (zSg_r _) hP.2.1.1 room hP.2.1.2.2 h0 hT ⟨⟨⟨h5'.trans (by show (((lwRd σ).1 : Nat) : Int) + 1 = (((lwRd σ).1 + 1 : Nat) : Int); omega), (f9 165 6 (by omega) (by omega) (by omega) (by omega)).trans h6⟩, (f9 168 1 (by omega) (by omega) (by omega) (by omega)).trans h168, (f9 181 1 (by omega) (by omega) (by omega) (by omega)).trans h181⟩, fun w => ⟨(f9 165 4 (by omega) (by omega) (by omega) (by omega)).trans (hz0 w).1, (hz0 w).2⟩, fun w => ?_⟩ (fun c j w0 w1 w2 => f9 c j (by omega) (by omega) (by omega) (by omega)) (fun c j w0 w1 => l9 c j (by omega)) (fun c j w0 w1 => rfl) hs0) (zfB_IL (fun c j w => f9 c j (by omega) (by omega) (by omega) (by omega)) (fun c j w => l9 c j (by omega)))
          obtain ⟨b1, b2, b3, q, b4, b5, b6, b7, b8⟩ := hz1 w
          exact ⟨(f9 165 4 (by omega) (by omega) (by omega) (by omega)).trans b1, fun w2 => (have y := b2 w2; ⟨zOM_fr y.1 (fun c j w => by rcases w with w | w; exact (w.1 ▸ w.2 ▸ kp.1 4 (by omega)); exact (kp.2 c j (by omega) (by omega)).1) (fun c j w => (kp.2 c j (by omega) (by omega)).2), zOU_fr y.2.1 (fun c j w => (kp.2 c j (by omega) (by omega)).1), zPS_fr y.2.2 (fun c j w => by rcases w with ⟨w1, w2 | w2⟩ | w; exact f9 c j (by omega) (by omega) (by omega) (by omega); exact (by rw [w1, w2]; exact kp.1 27 (by omega)); exact f9 c j (by omega) (by omega) (by omega) (by omega))⟩), fun w2 => (have y := b3 w2; ⟨zOM_fr y.1 (fun c j w => f9 c j (by omega) (by omega) (by omega) (by omega)) (fun c j w => l9 c j (by omega)), zOU_fr y.2.1 (fun c j w => f9 c j (by omega) (by omega) (by omega) (by omega)), zPS_fr y.2.2 (fun c j w => f9 c j (by omega) (by omega) (by omega) (by omega))⟩), q, b4, b5, b6, zNJ_fr b7 (fun c j w => f9 c j (by omega) (by omega) (by omega) (by omega)) (fun c j w => l9 c j (by omega)), zJO_fr b8 (fun c j w => f9 c j (by omega) (by omega) (by omega) (by omega))⟩
        · subst e
          refine Or.inr (Or.inr (Or.inr (Or.inl ⟨σ.1.2, ((lwRd σ).1 : Int), ((lwRd σ).2.1 : Int), he, hS, hP.2.1.1, hP.2.2.1.2, hP.1.1.2, h5, h6, t1, by omega, h181, hF, ?_⟩)))
          intro v I' L' hv h0 hx hT h5' kp hf hl'
          have f9 : ∀ c j : Nat, ¬ (c = 165 ∧ (j = 0 ∨ j = 2 ∨ j = 5)) → ¬ (182 ≤ c ∧ c ≤ 192) → ¬ (194 ≤ c ∧ c ≤ 196) → ¬ (c = 181 ∧ j ≠ 1 ∧ j ≠ 26) → I' c j = I c j := fun c j w1 w2 w3 w4 => hf c j (by omega) (by omega) (by omega) (by omega) (by omega) (by omega) (by omega) (by omega) (by omega) (by omega) (by omega) (by omega) (by omega) (by omega) (by omega) (by omega) (by omega) (by omega) (by omega) (by omega) (by omega) (by omega) (by omega) (by omega) (by omega) (by omega) (by omega) (by omega)
          have l9 : ∀ c j : Nat, ¬ (181 ≤ c ∧ c ≤ 193) → L' c j = L c j := fun c j w1 => hl' c j (by omega) (by omega)
          subst hv
          refine hQ I' L' R S (lwB_t2 hP hI (zSg_r _) hP.2.1.1 room hP.2.1.2.2 h0 hT ⟨⟨⟨h5'.trans (by show (((lwRd σ).1 : Nat) : Int) + 1 = (((lwRd σ).1 + 1 : Nat) : Int); omega), (f9 165 6 (by omega) (by omega) (by omega) (by omega)).trans h6⟩, (f9 168 1 (by omega) (by omega) (by omega) (by omega)).trans h168, (f9 181 1 (by omega) (by omega) (by omega) (by omega)).trans h181⟩, fun w => ⟨(f9 165 4 (by omega) (by omega) (by omega) (by omega)).trans (hz0 w).1, (hz0 w).2⟩, fun w => ?_⟩ (fun c j w0 w1 w2 => f9 c j (by omega) (by omega) (by omega) (by omega)) (fun c j w0 w1 => l9 c j (by omega)) (fun c j w0 w1 => rfl) hs0) (zfB_IL (fun c j w => f9 c j (by omega) (by omega) (by omega) (by omega)) (fun c j w => l9 c j (by omega)))
          obtain ⟨b1, b2, b3, q, b4, b5, b6, b7, b8⟩ := hz1 w
          exact ⟨(f9 165 4 (by omega) (by omega) (by omega) (by omega)).trans b1, fun w2 => (have y := b2 w2; ⟨zOM_fr y.1 (fun c j w => f9 c j (by omega) (by omega) (by omega) (by omega)) (fun c j w => l9 c j (by omega)), zOU_fr y.2.1 (fun c j w => f9 c j (by omega) (by omega) (by omega) (by omega)), zPS_fr y.2.2 (fun c j w => f9 c j (by omega) (by omega) (by omega) (by omega))⟩), fun w2 => (have y := b3 w2; ⟨zOM_fr y.1 (fun c j w => by rcases w with w | w; exact (w.1 ▸ w.2 ▸ kp.1 4 (by omega)); exact (kp.2 c j (by omega) (by omega)).1) (fun c j w => (kp.2 c j (by omega) (by omega)).2), zOU_fr y.2.1 (fun c j w => (kp.2 c j (by omega) (by omega)).1), zPS_fr y.2.2 (fun c j w => by rcases w with ⟨w1, w2 | w2⟩ | w; exact f9 c j (by omega) (by omega) (by omega) (by omega); exact (by rw [w1, w2]; exact kp.1 27 (by omega)); exact f9 c j (by omega) (by omega) (by omega) (by omega))⟩), q, b4, b5, b6, zNJ_fr b7 (fun c j w => f9 c j (by omega) (by omega) (by omega) (by omega)) (fun c j w => l9 c j (by omega)), zJO_fr b8 (fun c j w => f9 c j (by omega) (by omega) (by omega) (by omega))⟩
  · rw [show lf2 σ a1 a2 a3 a4 a5 = (lwd σ 2, -1) from if_pos hf0] at hQ
    refine Or.inl ⟨a1, he, hS, hP.2.1.1, hr.1, hf0, ?_⟩
    intro I' h3 hf
    exact hQ _ _ _ _ (lwB_d hP (by decide) h3 hf) (zfB_I (fun c j w => hf c j (by omega))))
