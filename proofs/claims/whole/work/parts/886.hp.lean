
/-- releases: what is told, and the releases, are new -/
def lwe (σ : LwS) (d : Int) (y : ReL) : LwS := ((d, σ.1.2), σ.2.1, σ.2.2.1, σ.2.2.2.1, σ.2.2.2.2.1, σ.2.2.2.2.2.1, σ.2.2.2.2.2.2.1, y)
abbrev lwR (σ : LwS) : ReL := σ.2.2.2.2.2.2.2
theorem lwI_e {σ : LwS} {d : Int} {y : ReL} (h : lwI σ) (hd : 0 ≤ d ∧ d ≤ 5) (hy : iE y) : lwI (lwe σ d y) := ⟨⟨hd, h.1.2⟩, h.2.1, h.2.2.1, h.2.2.2.1, h.2.2.2.2.1, h.2.2.2.2.2.1, h.2.2.2.2.2.2.1, hy⟩
theorem lwA_e {σ : LwS} {I L I' : ZI} {R : ZR} {S : ZS} {d : Int} {y : ReL} (h : lwA σ I L R S) (hd : 0 ≤ d ∧ d ≤ 5) (hy : iE y) (h3 : I' 40 3 = d) (hE : aE y I') (hf : ∀ c j : Nat, ¬ (c = 40 ∧ j = 3) → ¬ (154 ≤ c ∧ c ≤ 164) → I' c j = I c j) : lwA (lwe σ d y) I' L R S := by
  obtain ⟨h0, ⟨h1, h2⟩, h3', h4, h5, h6, h7, h8, h9, h10⟩ := h
  exact ⟨lwI_e h0 hd hy, ⟨h1, zStf h2 (fun c j q1 q2 => ⟨hf c j (by omega) (by omega), rfl⟩)⟩, ⟨h3, zTA_fr h3'.2 (fun c j q => hf c j (by omega) (by omega))⟩, aR_fr h4 (fun c j q => hf c j (by omega) (by omega)) (fun _ _ _ => rfl) ⟨rfl, rfl⟩, aB_fr h5 (fun c j q => hf c j (by omega) (by omega)) (fun _ _ _ => rfl), aU_fr h6 (fun c j q => hf c j (by omega) (by omega)), aC_fr h7 (fun c j q => hf c j (by omega) (by omega)) ⟨rfl, rfl⟩, aS_fr h8 (fun c j q => hf c j (by unfold scK at q; omega) (by unfold scK at q; omega)) (fun _ _ _ => rfl) ⟨rfl, rfl, rfl⟩, aX_fr h9 (fun c j q => hf c j (by omega) (by omega)), hE⟩
theorem lwB_e {σ : LwS} {I L I' : ZI} {R : ZR} {S : ZS} {d : Int} {y : ReL} (h : lwB σ I L R S) (hd : 0 ≤ d ∧ d ≤ 5) (hy : iE y) (h3 : I' 165 0 = d) (hE : bE y I') (hf : ∀ c j : Nat, ¬ (c = 165 ∧ j = 0) → ¬ (280 ≤ c ∧ c ≤ 301) → I' c j = I c j) : lwB (lwe σ d y) I' L R S := by
  obtain ⟨h0, h1, h3', h4, h5, h6, h7, h8, h9, h10⟩ := h
  have f2 : ∀ c j : Nat, 302 ≤ c → I' c j = I c j := fun c j q => hf c j (by omega) (by omega)
  exact ⟨lwI_e h0 hd hy, h1, ⟨h3, zTB_fr h3'.2 (fun c j q => hf c j (by omega) (by omega))⟩, bR_fr h4 (zSg_r _) (fun c j q => hf c j (by omega) (by omega)) (fun _ _ _ => rfl) rfl (fun q _ w1 w2 => ⟨fun c j w => f2 c j (by omega), fun c j w => ⟨rfl, rfl⟩⟩), bB_fr h5 (zSg_r _) (fun c j q => hf c j (by omega) (by omega)) ⟨rfl, rfl⟩ (fun g q _ _ w1 w2 w3 => ⟨fun c j w => f2 c j (by omega), fun c j w => ⟨rfl, rfl⟩⟩), bU_fr h6 (fun c j q => hf c j (by omega) (by omega)), bC_fr h7 (zSg_r _) (by rw [hf _ _ (by omega) (by omega)]; exact h7.1.2.1) (fun j q => by rw [hf _ _ (by omega) (by omega)]; exact h7.1.2.2 j q) (fun c j q => hf c j (by omega) (by omega)) ⟨rfl, rfl⟩ (fun q _ w1 w2 => ⟨fun c j w => f2 c j (by omega), fun c j w => rfl, fun c j w => rfl⟩), bS_fr h8 (fun c j q => hf c j (by omega) (by omega)) (fun c j q => rfl), bX_fr h9 (fun c j q => hf c j (by omega) (by omega)), hE⟩
/-- root -/
def lf45 : ZSpf := fun σ a i _ _ _ => (σ, if 0 ≤ a ∧ a < (lwR σ).1.1 ∧ 0 ≤ i ∧ i < 32 then rD ((lwR σ).1.2.1 a.toNat) ((lwR σ).1.2.2 a.toNat) (rT ((lwR σ).1.2.2 a.toNat)) 0 i.toNat else -1)
theorem lwA45 : lwCA 45 lf45 := (sn_Z_roo.up (by decide)).imp (by
  rintro args I L R S Q hz ⟨σ, a1, a2, a3, a4, a5, he, hr, hS, hc, hP, hQ⟩
  refine ⟨a1, a2, _, _, _, he, hS, hP.2.1.1, hr.1, hr.2.1, hP.2.2.2.2.2.2.2.2.2.1, ?_⟩
  rintro v rfl
  refine hQ _ _ _ _ hP zfA_0 (show r32 (lf45 σ a1 a2 a3 a4 a5).2 from ?_)
  unfold lf45
  dsimp only
  split
  · have w := rD_b ((lwR σ).1.2.1 a1.toNat) ((lwR σ).1.2.2 a1.toNat) (rT ((lwR σ).1.2.2 a1.toNat)) 0 a2.toNat
    exact ⟨by omega, by omega⟩
  · exact zRb rfl)
theorem lwB45 : lwCB 45 lf45 := (sn_Y_roo.up (by decide)).imp (by
  rintro args I L R S Q hz ⟨σ, a1, a2, a3, a4, a5, he, hr, hS, hc, hP, hQ⟩
  have hE := hP.2.2.2.2.2.2.2.2.2.1.1
  refine ⟨a1, a2, _, fun r j => rD ((lwR σ).1.2.1 r) ((lwR σ).1.2.2 r) (rT ((lwR σ).1.2.2 r)) 0 j, he, hS, hP.2.1.1, ⟨hr.1, hr.2.1⟩, hE.1, hE.2.1, fun r j w1 w2 => (hE.2.2.2.2 r w1).2.2.2 j w2, ?_⟩
  rintro v I' rfl hf
  exact hQ _ _ _ _ (lwB_s0 hP (fun c j q => by rcases q with (q | q | q | q | q | q | q | q) | q | q | q <;> exact hf c j (by omega)) (fun _ _ _ => rfl)) (zfB_I (fun c j w => hf c j (by omega))))
/-- approve -/
def lwSl (cn : Nat) (a p o : Int) : Prop := 0 ≤ a ∧ a < cn ∧ 0 ≤ p ∧ p < 16 ∧ 0 ≤ o ∧ o < 4
noncomputable def lf42 : ZSpf := fun σ a p o _ _ => @ite (LwS × Int) (lwSl (lwR σ).1.1 a p o) (Classical.propDecidable _) (lwe σ 0 ((lwR σ).1, roU (lwR σ).2.1 a p o, (lwR σ).2.2), @ite Int (apr (roU (lwR σ).2.1 a p o a.toNat)) (Classical.propDecidable _) 1 0) (lwd σ 2, -1)
theorem roU_b {ro : Nat → Nat → Int} {a p o : Int} {x y : Nat} (h : -1 ≤ ro x y ∧ ro x y ≤ 3) (ho : 0 ≤ o ∧ o < 4) : -1 ≤ roU ro a p o x y ∧ roU ro a p o x y ≤ 3 := by
  unfold roU
  split
  · omega
  · exact h
theorem lwA42 : lwCA 42 lf42 := (sn_Z_app.up (by decide)).imp (by
  rintro args I L R S Q hz ⟨σ, a1, a2, a3, a4, a5, he, hr, hS, hc, hP, hQ⟩
  have hE := hP.2.2.2.2.2.2.2.2.2
  have hI := hP.1.2.2.2.2.2.2.2
  refine ⟨a1, a2, a3, (lwR σ).1.1, (lwR σ).2.1, he, hS, hP.2.1.1, ⟨hr.1, hr.2.1, hr.2.2.1⟩, hE.1.1, hI.1, fun x p w1 w2 => ⟨hE.2.1 x p w1 w2, hI.2.1 x p w1 w2⟩, ?_⟩
  intro v I' hv h2 hf
  by_cases hs : lwSl (lwR σ).1.1 a1 a2 a3
  · rw [show lf42 σ a1 a2 a3 a4 a5 = (lwe σ 0 ((lwR σ).1, roU (lwR σ).2.1 a1 a2 a3, (lwR σ).2.2), @ite Int (apr (roU (lwR σ).2.1 a1 a2 a3 a1.toNat)) (Classical.propDecidable _) 1 0) from if_pos hs] at hQ
    have e : v = @ite Int (apr (roU (lwR σ).2.1 a1 a2 a3 a1.toNat)) (Classical.propDecidable _) 1 0 ∧ I' 40 3 = 0 ∧ (v = 0 ∨ v = 1) := by
      rcases hv with ⟨w1, w2, w3 | w3⟩ | w1
      · exact ⟨w3.1.trans (if_pos w3.2).symm, w2, Or.inr w3.1⟩
      · exact ⟨w3.1.trans (if_neg w3.2).symm, w2, Or.inl w3.1⟩
      · exact absurd hs w1.1
    rw [← e.1] at hQ
    exact hQ I' _ _ _ (lwA_e hP (by decide) ⟨hI.1, fun r p w1 w2 => roU_b (hI.2.1 r p w1 w2) ⟨hs.2.2.2.2.1, hs.2.2.2.2.2⟩, hI.2.2⟩ e.2.1 ⟨zRA_fr hE.1 (fun c j w => hf c j (by omega) (by omega)), fun r p w1 w2 => (h2 r p w1 w2).trans (if_pos hs), fun r w => (hf _ _ (by omega) (by omega)).trans (hE.2.2.1 r w), (hf _ _ (by omega) (by omega)).trans hE.2.2.2⟩ (fun c j w1 w2 => hf c j (by omega) (by omega))) (zfA_I (fun c j w => hf c j (by omega) (by omega))) (show r32 v from by rcases e.2.2 with w | w <;> rw [w] <;> exact zRb rfl)
  · rw [show lf42 σ a1 a2 a3 a4 a5 = (lwd σ 2, -1) from if_neg hs] at hQ
    rcases hv with w1 | ⟨w1, w2, rfl⟩
    · exact absurd w1.1 hs
    · exact hQ I' _ _ _ (lwA_e hP (by decide) hI w2 ⟨zRA_fr hE.1 (fun c j w => hf c j (by omega) (by omega)), fun r p u1 u2 => (h2 r p u1 u2).trans ((if_neg hs).trans rfl), fun r w => (hf _ _ (by omega) (by omega)).trans (hE.2.2.1 r w), (hf _ _ (by omega) (by omega)).trans hE.2.2.2⟩ (fun c j w1 w2 => hf c j (by omega) (by omega))) (zfA_I (fun c j w => hf c j (by omega) (by omega))) (zRb rfl))
