
/-! board -/
theorem bGd_new {x y z sd : Int} {d : JdS} (hg : jGd d) : bGd (bNew (bCl x 16) (bCl y 16) (bCl z 4) sd (bDj d)) := by
  have h1 := bCl_b (x := x) (m := 16) (by decide)
  have h2 := bCl_b (x := y) (m := 16) (by decide)
  have h3 := bCl_b (x := z) (m := 4) (by decide)
  exact ⟨⟨h1, h2, h3, bCl_m⟩, ⟨Nat.zero_le _, Nat.zero_le _⟩, fun c hc => ⟨Nat.zero_le _, fun _ => rfl, Int.le_refl _, (show (-1 : Int) < ((0 : Nat) : Int) by decide), Int.le_refl _, (show (-1 : Int) < ((0 : Nat) : Int) by decide), fun w => absurd rfl w, fun _ => rfl⟩, fun p hp => absurd hp (Nat.not_lt_zero p), fun n hn => absurd hn (Nat.not_lt_zero n), fun k l hk hl => Nat.zero_le _, fun w hw => jOf_b hg, fun a b hab hb => absurd hb (Nat.not_lt_zero b)⟩
theorem iB_brd {x : BoL} {a b c sd : Int} {d : JdS} (h : iB x) (hb : x.1 < 6) (hg : jGd d) : iB (x.1 + 1, bNew (bCl a 16) (bCl b 16) (bCl c 4) sd (bDj d), d, x.2.2.2) := ⟨hb, fun q => absurd q (Nat.succ_ne_zero _), fun _ => ⟨⟨bGd_new hg, fun n hn => absurd hn (Nat.not_lt_zero n)⟩, ⟨hg, fun _ _ => rfl⟩, fun _ _ => Nat.zero_le _, fun m hm => absurd hm (Nat.not_lt_zero m)⟩⟩
def lwSd (a b : Int) : Int := zlor (zlshl a 32) (zland b 4294967295)
theorem lwSd_r {a b : Int} : r64 (lwSd a b) := by
  have h1 := Int64.le_toInt (Int64.ofInt (zlshl a 32) ||| Int64.ofInt (zland b 4294967295))
  have h2 := Int64.toInt_lt (Int64.ofInt (zlshl a 32) ||| Int64.ofInt (zland b 4294967295))
  have e : lwSd a b = (Int64.ofInt (zlshl a 32) ||| Int64.ofInt (zland b 4294967295)).toInt := rfl
  rw [← e] at h1 h2
  exact ⟨by omega, by omega⟩
noncomputable abbrev lwDr0 (σ : LwS) : JdS := oD σ.2.1.2.2.1
noncomputable def lf10y (σ : LwS) (x y z sd : Int) : LwS × Int := (lwb σ 0 ((lwBo σ).1 + 1, bNew (bCl x 16) (bCl y 16) (bCl z 4) sd (bDj (lwDr0 σ)), lwDr0 σ, (lwBo σ).2.2.2), ((lwBo σ).1 : Int))
noncomputable def lf10 : ZSpf := fun σ x y z a b => if σ.2.1.2.1 = 0 then (lwd σ 3, -1) else if (lwBo σ).1 = 6 then (lwd σ 1, -1) else lf10y σ x y z (lwSd a b)
theorem lwA10 : lwCA 10 lf10 := ZSnd.alt3 (sn_A_brd0.up (by decide)) (sn_A_brdF.up (by decide)) (sn_A_brd.up (by decide)) (by
  rintro args I L R S Q hz ⟨σ, a1, a2, a3, a4, a5, he, hr, hS, hc, hP, hQ⟩
  have hB0 : aB (lwBo σ) I L := hP.2.2.2.2.1
  have hI : iB (lwBo σ) := hP.1.2.2.1
  have hR : iR σ.2.1 := hP.1.2.1
  have h15 : I 63 15 = σ.2.1.2.1 := hP.2.2.2.1.1.2
  have rr : (r32 a1 ∧ r32 a2 ∧ r32 a3) ∧ r64 (lwSd a4 a5) := ⟨⟨hr.1, hr.2.1, hr.2.2.1⟩, lwSd_r⟩
  by_cases h0 : σ.2.1.2.1 = 0
  · rw [show lf10 σ a1 a2 a3 a4 a5 = (lwd σ 3, -1) from if_pos h0] at hQ
    refine Or.inl ⟨a1, a2, a3, lwSd a4 a5, he, hS, hP.2.1.1, rr, by rw [h15, h0]; rfl, ?_⟩
    intro I' h3 hf
    exact hQ _ _ _ _ (lwA_d hP (by decide) h3 hf) (zfA_I (fun c j w => hf c j (by omega))) (zRb rfl)
  · have t4 : 1 ≤ ((σ.2.1.2.1 : Nat) : Int) ∧ ((σ.2.1.2.1 : Nat) : Int) ≤ 10 := by have := hR.1.2.1; omega
    by_cases h6 : (lwBo σ).1 = 6
    · rw [show lf10 σ a1 a2 a3 a4 a5 = (lwd σ 1, -1) from (if_neg h0).trans (if_pos h6)] at hQ
      refine Or.inr (Or.inl ⟨a1, a2, a3, lwSd a4 a5, _, (lwBo σ).1, he, hS, hP.2.1.1, rr, h15, t4, hB0.2.1, h6, ?_⟩)
      intro I' h3 hf
      exact hQ _ _ _ _ (lwA_d hP (by decide) h3 hf) (zfA_I (fun c j w => hf c j (by omega))) (zRb rfl)
    · rw [show lf10 σ a1 a2 a3 a4 a5 = lf10y σ a1 a2 a3 (lwSd a4 a5) from (if_neg h0).trans (if_neg h6)] at hQ
      obtain ⟨ob, hD⟩ := hP.2.2.2.1.2.2.1
      have hb6 : (lwBo σ).1 < 6 := by have := hI.1; omega
      refine Or.inr (Or.inr ⟨lwDr0 σ, ob, a1, a2, a3, lwSd a4 a5, _, (lwBo σ).1, he, hS, hP.2.1.1, hD, hR.2.1.2.2.2.1, hP.2.2.2.1.2.2.2.2, rr, h15, t4, hB0.2.1, hb6, hB0.2.2.1.1, hB0.2.2.1.2, ?_⟩)
      rintro v I' L' rfl hB2 h3 hf hl
      exact hQ _ _ _ _ (lwA_b (y := ((lwBo σ).1 + 1, bNew (bCl a1 16) (bCl a2 16) (bCl a3 4) (lwSd a4 a5) (bDj (lwDr0 σ)), lwDr0 σ, (lwBo σ).2.2.2)) hP (by decide) (iB_brd hI hb6 hR.2.1.2.2.2.1) h3 (aB_y (Nat.succ_ne_zero _) hB2) (fun c j w1 w2 => hf c j (by omega) (by omega) (by omega) (by omega) (by omega) (by omega) (by omega) (by omega) (by omega) (by omega) (by omega) (by omega) (by omega)) (fun c j w => hl c j (by omega))) (zfA_IL (fun c j w => hf c j (by omega) (by omega) (by omega) (by omega) (by omega) (by omega) (by omega) (by omega) (by omega) (by omega) (by omega) (by omega) (by omega)) (fun c j w => hl c j (by omega))) (show r32 (((lwBo σ).1 : Nat) : Int) from ⟨by omega, by omega⟩))
theorem lwB10 : lwCB 10 lf10 := ZSnd.alt3 (sn_M_brd0.up (by decide)) (sn_M_brdF.up (by decide)) (sn_M_brs.up (by decide)) (by
  rintro args I L R S Q hz ⟨σ, a1, a2, a3, a4, a5, he, hr, hS, hc, hP, hQ⟩
  have hB : bB (lwBo σ) I L R S := hP.2.2.2.2.1
  have hI : iB (lwBo σ) := hP.1.2.2.1
  have hR : iR σ.2.1 := hP.1.2.1
  have rr : (r32 a1 ∧ r32 a2 ∧ r32 a3) ∧ r64 (lwSd a4 a5) := ⟨⟨hr.1, hr.2.1, hr.2.2.1⟩, lwSd_r⟩
  rcases lwB_r hP with ⟨h0, _, r7, _⟩ | ⟨h0, _, q, r7, q2, q3, q4, q5⟩
  · rw [show lf10 σ a1 a2 a3 a4 a5 = (lwd σ 3, -1) from if_pos h0] at hQ
    refine Or.inl ⟨a1, a2, a3, lwSd a4 a5, he, hS, hP.2.1.1, rr, r7, ?_⟩
    intro I' h3 hf
    exact hQ _ _ _ _ (lwB_d hP (by decide) h3 hf) (zfB_I (fun c j w => hf c j (by omega)))
  · by_cases h6 : (lwBo σ).1 = 6
    · rw [show lf10 σ a1 a2 a3 a4 a5 = (lwd σ 1, -1) from (if_neg h0).trans (if_pos h6)] at hQ
      refine Or.inr (Or.inl ⟨a1, a2, a3, lwSd a4 a5, q, he, hS, hP.2.1.1, rr, r7, by rw [hB.1, h6]; rfl, ?_⟩)
      intro I' h3 hf
      exact hQ _ _ _ _ (lwB_d hP (by decide) h3 hf) (zfB_I (fun c j w => hf c j (by omega)))
    · rw [show lf10 σ a1 a2 a3 a4 a5 = lf10y σ a1 a2 a3 (lwSd a4 a5) from (if_neg h0).trans (if_neg h6)] at hQ
      have hb6 : (lwBo σ).1 < 6 := by have := hI.1; omega
      refine Or.inr (Or.inr ⟨a1, a2, a3, lwSd a4 a5, q, (lwBo σ).1, bDj (lwDr0 σ), he, hS, hP.2.1.1, rr, r7, q2, q3, hB.1, hb6, ?_⟩)
      rintro u v I' L' R' S' rfl h3 h14 hu sg hdy hRs hBB hPB r12 r13 hrm hf hl hrf
      have hqS : q + 23 ≤ S.2.1 := q2.2.1
      have hu2 := hu.2
      have hu1 := hu.1.1
      have f9 : ∀ c j : Nat, c < S.2.1 → ¬ (c = 165 ∧ (j = 0 ∨ j = 14 ∨ j = 15 ∨ j = 22)) → I' c j = I c j := fun c j w0 w1 => hf c j (by omega) (by omega) (by omega) (by omega) (by omega)
      have l9 : ∀ c j : Nat, c < S.2.1 → L' c j = L c j := fun c j w0 => hl c j (by omega)
      have r9 : ∀ c j : Nat, c < S.2.1 → ¬ (c = 165 ∧ (j = 12 ∨ j = 13)) → R' c j = R c j := fun c j w0 w1 => hrf c j (by omega) (by omega) (by omega)
      have hs0 : 302 ≤ S.2.1 := by omega
      obtain ⟨g0, g1, g3', g4, g5, g6, g7, g8, g9, g10⟩ := hP
      have e7 : R' 165 7 = R 165 7 := r9 _ _ (by omega) (by omega)
      have e31 : R' 165 31 = R 165 31 := r9 _ _ (by omega) (by omega)
      have e32 : R' 165 32 = R 165 32 := r9 _ _ (by omega) (by omega)
      have hcS : ∀ c : Nat, R 165 31 = some c → c + 32 ≤ S.2.1 := fun c hc' => by
        by_cases hm : (lwC σ).1 = 0
        · rw [g7.2.1 hm] at hc'; exact absurd hc' (by simp)
        · obtain ⟨k, ⟨k1, k2, k3, k4, k5⟩, _⟩ := g7.2.2 hm
          have e : k = c := Option.some.inj (k1.symm.trans hc')
          have : k + 14 + 18 ≤ S.2.1 := k4.2.1
          omega
      refine hQ I' L' R' S' ⟨lwI_b g0 (by decide) (iB_brd hI hb6 hR.2.1.2.2.2.1), ⟨hRs, ?_, ?_⟩, ⟨h3, zTB_fr g3'.2 (fun c j w => f9 c j (by omega) (by omega))⟩, bR_fr g4 sg (fun c j w => f9 c j (by omega) (by omega)) (fun c j w => l9 c j (by omega)) e7 (fun p w0 w1 w2 => ⟨fun c j w => f9 c j (by omega) (by omega), fun c j w => ⟨l9 c j (by omega), r9 c j (by omega) (by omega)⟩⟩), ?_, bU_fr g6 (fun c j w => f9 c j (by omega) (by omega)), bC_fr g7 sg (by rw [f9 _ _ (by omega) (by omega)]; exact g7.1.2.1) (fun j w => by rw [f9 _ _ (by omega) (by omega)]; exact g7.1.2.2 j w) (fun c j w => f9 c j (by omega) (by omega)) ⟨e31, e32⟩ (fun p w0 w1 w2 => ⟨fun c j w => f9 c j (by omega) (by omega), fun c j w => l9 c j (by omega), fun c j w => r9 c j (by omega) (by omega)⟩), bS_fr g8 (fun c j w => f9 c j (by omega) (by omega)) (fun c j w => l9 c j (by omega)), bX_fr g9 (fun c j w => f9 c j (by omega) (by omega)), bE_fr g10 (fun c j w => f9 c j (by omega) (by omega))⟩ ⟨sg, fun c j w => ⟨f9 c j (by omega) (by omega), l9 c j (by omega), r9 c j (by omega) (by omega)⟩⟩
      · have z : lwRm σ S := g1.2.1
        unfold lwRm at z
        show S'.2.1 ≤ 302 + 23 * σ.2.1.2.1 + 19 * ((lwBo σ).1 + 1) + 54 * σ.2.2.2.2.1.1 ∧ S'.2.2 ≤ 500000 + 44429 * σ.2.1.2.1 + 18613 * ((lwBo σ).1 + 1) + 32451 * σ.2.2.2.2.1.1
        have z2 : S.2.1 ≤ 302 + 23 * σ.2.1.2.1 + 19 * (lwBo σ).1 + 54 * σ.2.2.2.2.1.1 ∧ S.2.2 ≤ 500000 + 44429 * σ.2.1.2.1 + 18613 * (lwBo σ).1 + 32451 * σ.2.2.2.2.1.1 := z
        omega
      · obtain ⟨D1, D2, D3, D4, D5⟩ := g1.2.2
        unfold lwD
        rw [r12, r13, e31, e7]
        refine ⟨fun g c w1 w2 => ?_, fun g p w1 w2 => ?_, D3, fun c p w1 w2 => ?_, fun p p' w1 w2 => ?_⟩
        · have := hcS c w2
          have e : u = g := Option.some.inj w1
          omega
        · have e : u = g := Option.some.inj w1
          have e2 : q = p := Option.some.inj (r7.symm.trans w2)
          omega
        · have e : q = p := Option.some.inj w2
          rw [← e]
          exact D3 c q w1 r7
        · have e : q = p := Option.some.inj w1
          have e2 : q = p' := Option.some.inj (r7.symm.trans w2)
          omega
      · refine ⟨h14.trans (by show ((lwBo σ).1 : Int) + 1 = (((lwBo σ).1 + 1 : Nat) : Int); omega), fun w => absurd w (Nat.succ_ne_zero _), fun _ => ⟨u, q, ⟨r12, hdy, hu1⟩, ⟨r13, zDy_g2 q2 sg (by decide) (fun c f w1 w2 => r9 c f (by have : c < q + 23 := w2; omega) (by omega)), q3, hu.1.2⟩, ⟨hBB, hPB⟩, zNJ_fr q4 (fun c j w => f9 c j (by omega) (by omega)) (fun c j w => l9 c j (by omega)), zJO_fr q5 (fun c j w => f9 c j (by omega) (by omega))⟩⟩)
