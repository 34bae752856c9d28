
/-- approve, the reference -/
theorem bE_z {x : ReL} {I : ZI} (h : bE x I) : ∀ r, r < x.1.1 → x.1.2.2 r ≤ 512 := fun r hr => (h.1.1.2.2.2.2 r hr).1.2.1
theorem lwB42 : lwCB 42 lf42 := (sn_Y_apf.up (by decide)).imp (by
  rintro args I L R S Q hz ⟨σ, a1, a2, a3, a4, a5, he, hr, hS, hc, hP, hQ⟩
  have hE := hP.2.2.2.2.2.2.2.2.2
  have hI : iE (lwR σ) := hP.1.2.2.2.2.2.2.2
  have hn := bE_z hE
  obtain ⟨⟨e1, e2, e3⟩, e4, e5, e6, ⟨e7, e8⟩, e9, e10⟩ := id hE
  refine ⟨a1, a2, a3, _, (lwR σ).1.1, (lwR σ).2.1, he, hS, hP.2.1.1, ⟨hr.1, hr.2.1, hr.2.2.1⟩, e1.1, hI.1, rfl, ⟨e9, e10⟩, fun x p w1 w2 => ⟨e4 x p w1 w2, hI.2.1 x p w1 w2⟩, ?_⟩
  intro v I' hv he2 h2 hf
  have hz6 : ∀ r : Nat, (lwR σ).1.1 ≤ r → r < 10 → I' 296 r = 0 ∧ ∀ p : Nat, p < 16 → I' 295 (16 * r + p) = 0 := fun r w1 w2 => ⟨(hf _ _ (by omega) (by omega) (by omega) (by omega) (by omega) (by omega) (by omega) (by omega)).trans (e6 r w1 w2).1, fun p w3 => (hf _ _ (by omega) (by omega) (by omega) (by omega) (by omega) (by omega) (by omega) (by omega)).trans ((e6 r w1 w2).2 p w3)⟩
  have hb1 := zRB_fr e1 (I' := I') ((hf _ _ (by omega) (by omega) (by omega) (by omega) (by omega) (by omega) (by omega) (by omega)).trans e1.2.2.1) (fun c j w => hf c j (by omega) (by omega) (by omega) (by omega) (by omega) (by omega) (by omega) (by omega))
  have hb2 := zRC_fr e2 (I' := I') hn (fun c j w => hf c j (by omega) (by omega) (by omega) (by omega) (by omega) (by omega) (by omega) (by omega))
  by_cases hs : lwSl (lwR σ).1.1 a1 a2 a3
  · rw [show lf42 σ a1 a2 a3 a4 a5 = (lwe σ 0 ((lwR σ).1, roU (lwR σ).2.1 a1 a2 a3, (lwR σ).2.2), @ite Int (apr (roU (lwR σ).2.1 a1 a2 a3 a1.toNat)) (Classical.propDecidable _) 1 0) from if_pos hs] at hQ
    have e : v = @ite Int (apr (roU (lwR σ).2.1 a1 a2 a3 a1.toNat)) (Classical.propDecidable _) 1 0 ∧ I' 165 0 = 0 := by
      rcases hv with ⟨w1, w2, w3 | w3⟩ | w1
      · exact ⟨w3.1.trans (if_pos w3.2).symm, w2⟩
      · exact ⟨w3.1.trans (if_neg w3.2).symm, w2⟩
      · exact absurd hs w1.1
    rw [← e.1] at hQ
    exact hQ I' _ _ _ (lwB_e hP (by decide) ⟨hI.1, fun r p w1 w2 => roU_b (hI.2.1 r p w1 w2) ⟨hs.2.2.2.2.1, hs.2.2.2.2.2⟩, hI.2.2⟩ e.2 ⟨⟨hb1, hb2, (hf _ _ (by omega) (by omega) (by omega) (by omega) (by omega) (by omega) (by omega) (by omega)).trans e3⟩, fun r p w1 w2 => by have hs' : 0 ≤ a1 ∧ a1 < ((lwR σ).1.1 : Int) ∧ 0 ≤ a2 ∧ a2 < 16 ∧ 0 ≤ a3 ∧ a3 < 4 := hs; have z := h2 r p w1 w2; rw [if_pos hs'] at z; exact z, fun r w => (hf _ _ (by omega) (by omega) (by omega) (by omega) (by omega) (by omega) (by omega) (by omega)).trans (e5 r w), hz6, ⟨(hf _ _ (by omega) (by omega) (by omega) (by omega) (by omega) (by omega) (by omega) (by omega)).trans e7, (hf _ _ (by omega) (by omega) (by omega) (by omega) (by omega) (by omega) (by omega) (by omega)).trans e8⟩, he2⟩ (fun c j w1 w2 => hf c j (by omega) (by omega) (by omega) (by omega) (by omega) (by omega) (by omega) (by omega))) (zfB_I (fun c j w => hf c j (by omega) (by omega) (by omega) (by omega) (by omega) (by omega) (by omega) (by omega)))
  · rw [show lf42 σ a1 a2 a3 a4 a5 = (lwd σ 2, -1) from if_neg hs] at hQ
    rcases hv with w1 | ⟨w1, w2, rfl⟩
    · exact absurd w1.1 hs
    · exact hQ I' _ _ _ (lwB_e hP (by decide) hI w2 ⟨⟨hb1, hb2, (hf _ _ (by omega) (by omega) (by omega) (by omega) (by omega) (by omega) (by omega) (by omega)).trans e3⟩, fun r p u1 u2 => by have hs' : ¬ (0 ≤ a1 ∧ a1 < ((lwR σ).1.1 : Int) ∧ 0 ≤ a2 ∧ a2 < 16 ∧ 0 ≤ a3 ∧ a3 < 4) := hs; have z := h2 r p u1 u2; rw [if_neg hs'] at z; exact z, fun r w => (hf _ _ (by omega) (by omega) (by omega) (by omega) (by omega) (by omega) (by omega) (by omega)).trans (e5 r w), hz6, ⟨(hf _ _ (by omega) (by omega) (by omega) (by omega) (by omega) (by omega) (by omega) (by omega)).trans e7, (hf _ _ (by omega) (by omega) (by omega) (by omega) (by omega) (by omega) (by omega) (by omega)).trans e8⟩, he2⟩ (fun c j w1 w2 => hf c j (by omega) (by omega) (by omega) (by omega) (by omega) (by omega) (by omega) (by omega))) (zfB_I (fun c j w => hf c j (by omega) (by omega) (by omega) (by omega) (by omega) (by omega) (by omega) (by omega))))
/-- withdraw -/
def lwWd (wd : Nat → Int) (a : Int) (x : Nat) : Int := if 0 ≤ a ∧ x = a.toNat then 1 else wd x
def lf43 : ZSpf := fun σ a _ _ _ _ => if 0 ≤ a ∧ a < (lwR σ).1.1 then (if (lwR σ).2.2.1 a.toNat = 0 then (lwe σ 0 ((lwR σ).1, (lwR σ).2.1, lwWd (lwR σ).2.2.1 a, (lwR σ).2.2.2), 1) else (lwd σ 4, 0)) else (lwd σ 2, 0)
theorem lwWd_o {wd : Nat → Int} {a : Int} {x : Nat} (h : ¬ (0 ≤ a ∧ x = a.toNat)) : lwWd wd a x = wd x := if_neg h
theorem lwWd_1 {wd : Nat → Int} {a : Int} {x : Nat} (h : wd x = 0 ∨ wd x = 1) : lwWd wd a x = 0 ∨ lwWd wd a x = 1 := by
  unfold lwWd
  split
  · exact Or.inr rfl
  · exact h
theorem lwW_o {w w' : Nat → Int} : ∀ {n : Nat}, (∀ x, x < n → w' x = w x) → lwW w' n = lwW w n
  | 0, _ => rfl
  | n + 1, h => by
    show lwW w' n + w' n = lwW w n + w n
    rw [lwW_o (fun x q => h x (by omega)), h n (by omega)]
theorem lwW_1 {wd : Nat → Int} {a : Int} (ha : 0 ≤ a) (h0 : wd a.toNat = 0) : ∀ {n : Nat}, a < n → lwW (lwWd wd a) n = lwW wd n + 1
  | 0, h => by omega
  | n + 1, h => by
    show lwW (lwWd wd a) n + lwWd wd a n = lwW wd n + wd n + 1
    by_cases q : n = a.toNat
    · rw [lwW_o (w := wd) (fun x y => lwWd_o (by omega)), show lwWd wd a n = 1 from if_pos ⟨ha, q⟩, q, h0]
      omega
    · rw [lwW_1 ha h0 (by omega), lwWd_o (by omega)]
      omega
theorem lwW_b {w : Nat → Int} : ∀ {n : Nat}, (∀ x, x < n → w x = 0 ∨ w x = 1) → 0 ≤ lwW w n ∧ lwW w n ≤ n
  | 0, _ => ⟨Int.le_refl 0, Int.le_refl 0⟩
  | n + 1, h => by
    have z := lwW_b (n := n) (fun x q => h x (by omega))
    have z2 := h n (by omega)
    show 0 ≤ lwW w n + w n ∧ lwW w n + w n ≤ ((n + 1 : Nat) : Int)
    omega
theorem lwA43 : lwCA 43 lf43 := (sn_Z_wit.up (by decide)).imp (by
  rintro args I L R S Q hz ⟨σ, a1, a2, a3, a4, a5, he, hr, hS, hc, hP, hQ⟩
  have hE := hP.2.2.2.2.2.2.2.2.2
  have hI : iE (lwR σ) := hP.1.2.2.2.2.2.2.2
  refine ⟨a1, (lwR σ).1.1, (lwR σ).2.2.1, he, hS, hP.2.1.1, hr.1, hE.1.1, hI.1, fun x w1 => ⟨hE.2.2.1 x w1, hI.2.2.1 x w1⟩, ?_⟩
  intro v I' hv h2 hf
  by_cases hs : 0 ≤ a1 ∧ a1 < (lwR σ).1.1
  · by_cases hw : (lwR σ).2.2.1 a1.toNat = 0
    · rw [show lf43 σ a1 a2 a3 a4 a5 = (lwe σ 0 ((lwR σ).1, (lwR σ).2.1, lwWd (lwR σ).2.2.1 a1, (lwR σ).2.2.2), 1) from (if_pos hs).trans (if_pos hw)] at hQ
      rcases hv with w1 | ⟨w1, w2 | ⟨w2, rfl, w3⟩⟩
      · exact absurd hs w1.1
      · exact absurd hw w2.1
      · exact hQ I' _ _ _ (lwA_e hP (by decide) ⟨hI.1, hI.2.1, fun r w => lwWd_1 (hI.2.2.1 r w), hI.2.2.2⟩ w3 ⟨zRA_fr hE.1 (fun c j w => hf c j (by omega) (by omega)), fun r p u1 u2 => (hf _ _ (by omega) (by omega)).trans (hE.2.1 r p u1 u2), fun r w => h2 r w, (hf _ _ (by omega) (by omega)).trans hE.2.2.2⟩ (fun c j w1 w2 => hf c j (by omega) (by omega))) (zfA_I (fun c j w => hf c j (by omega) (by omega))) (zRb rfl)
    · rw [show lf43 σ a1 a2 a3 a4 a5 = (lwd σ 4, 0) from (if_pos hs).trans (if_neg hw)] at hQ
      have h1 : (lwR σ).2.2.1 a1.toNat = 1 := (hI.2.2.1 a1.toNat (by omega)).resolve_left hw
      rcases hv with w1 | ⟨w1, ⟨w2, rfl, w3⟩ | w2⟩
      · exact absurd hs w1.1
      · exact hQ I' _ _ _ (lwA_e hP (by decide) hI w3 ⟨zRA_fr hE.1 (fun c j w => hf c j (by omega) (by omega)), fun r p u1 u2 => (hf _ _ (by omega) (by omega)).trans (hE.2.1 r p u1 u2), fun r w => by have z := h2 r w; by_cases y : 0 ≤ a1 ∧ r = a1.toNat; (rw [if_pos y] at z; rw [z, y.2]; exact h1.symm); (rw [if_neg y] at z; exact z), (hf _ _ (by omega) (by omega)).trans hE.2.2.2⟩ (fun c j w1 w2 => hf c j (by omega) (by omega))) (zfA_I (fun c j w => hf c j (by omega) (by omega))) (zRb rfl)
      · exact absurd w2.1 hw
  · rw [show lf43 σ a1 a2 a3 a4 a5 = (lwd σ 2, 0) from if_neg hs] at hQ
    rcases hv with ⟨w1, rfl, w3⟩ | w1
    · exact hQ I' _ _ _ (lwA_e hP (by decide) hI w3 ⟨zRA_fr hE.1 (fun c j w => hf c j (by omega) (by omega)), fun r p u1 u2 => (hf _ _ (by omega) (by omega)).trans (hE.2.1 r p u1 u2), fun r w => (h2 r w).trans (if_neg (by have w' : r < (lwR σ).1.1 := w; omega)), (hf _ _ (by omega) (by omega)).trans hE.2.2.2⟩ (fun c j w1 w2 => hf c j (by omega) (by omega))) (zfA_I (fun c j w => hf c j (by omega) (by omega))) (zRb rfl)
    · exact absurd w1.1 hs)
theorem lwB43 : lwCB 43 lf43 := (sn_Y_wif.up (by decide)).imp (by
  rintro args I L R S Q hz ⟨σ, a1, a2, a3, a4, a5, he, hr, hS, hc, hP, hQ⟩
  have hE := hP.2.2.2.2.2.2.2.2.2
  have hI : iE (lwR σ) := hP.1.2.2.2.2.2.2.2
  have hn := bE_z hE
  obtain ⟨⟨e1, e2, e3⟩, e4, e5, e6, ⟨e7, e8⟩, e9, e10⟩ := id hE
  have hwb := lwW_b (n := (lwR σ).1.1) hI.2.2.1
  refine ⟨a1, _, lwW (lwR σ).2.2.1 (lwR σ).1.1, (lwR σ).1.1, (lwR σ).2.2.1, he, hS, hP.2.1.1, hr.1, e1.1, hI.1, rfl, ⟨e9, e10⟩, e8, ⟨hwb.1, by have := hI.1; show lwW (lwR σ).2.2.1 (lwR σ).1.1 ≤ 100; omega⟩, fun x w1 => ⟨e5 x w1, hI.2.2.1 x w1⟩, ?_⟩
  intro v I' hv he2 h2 h3 hf
  have hz6 : ∀ r : Nat, (lwR σ).1.1 ≤ r → r < 10 → I' 296 r = 0 ∧ ∀ p : Nat, p < 16 → I' 295 (16 * r + p) = 0 := fun r w1 w2 => ⟨(hf _ _ (by omega) (by omega) (by omega) (by omega) (by omega) (by omega) (by omega) (by omega) (by omega)).trans (e6 r w1 w2).1, fun p w3 => (hf _ _ (by omega) (by omega) (by omega) (by omega) (by omega) (by omega) (by omega) (by omega) (by omega)).trans ((e6 r w1 w2).2 p w3)⟩
  have hb1 := zRB_fr e1 (I' := I') ((hf _ _ (by omega) (by omega) (by omega) (by omega) (by omega) (by omega) (by omega) (by omega) (by omega)).trans e1.2.2.1) (fun c j w => hf c j (by omega) (by omega) (by omega) (by omega) (by omega) (by omega) (by omega) (by omega) (by omega))
  have hb2 := zRC_fr e2 (I' := I') hn (fun c j w => hf c j (by omega) (by omega) (by omega) (by omega) (by omega) (by omega) (by omega) (by omega) (by omega))
  have hb4 : ∀ r p : Nat, r < (lwR σ).1.1 → p < 16 → I' 295 (16 * r + p) = (lwR σ).2.1 r p + 1 := fun r p u1 u2 => (hf _ _ (by omega) (by omega) (by omega) (by omega) (by omega) (by omega) (by omega) (by omega) (by omega)).trans (e4 r p u1 u2)
  by_cases hs : 0 ≤ a1 ∧ a1 < (lwR σ).1.1
  · by_cases hw : (lwR σ).2.2.1 a1.toNat = 0
    · rw [show lf43 σ a1 a2 a3 a4 a5 = (lwe σ 0 ((lwR σ).1, (lwR σ).2.1, lwWd (lwR σ).2.2.1 a1, (lwR σ).2.2.2), 1) from (if_pos hs).trans (if_pos hw)] at hQ
      rcases hv with w1 | ⟨w1, w2 | ⟨w2, rfl, w3⟩⟩
      · exact absurd hs w1.1
      · exact absurd hw w2.1
      · exact hQ I' _ _ _ (lwB_e hP (by decide) ⟨hI.1, hI.2.1, fun r w => lwWd_1 (hI.2.2.1 r w), hI.2.2.2⟩ w3 ⟨⟨hb1, hb2, (hf _ _ (by omega) (by omega) (by omega) (by omega) (by omega) (by omega) (by omega) (by omega) (by omega)).trans e3⟩, hb4, fun r w => h2 r w, hz6, ⟨(hf _ _ (by omega) (by omega) (by omega) (by omega) (by omega) (by omega) (by omega) (by omega) (by omega)).trans e7, by rw [h3, if_pos ⟨hs, hw⟩]; exact (lwW_1 hs.1 hw hs.2).symm⟩, he2⟩ (fun c j w1 w2 => hf c j (by omega) (by omega) (by omega) (by omega) (by omega) (by omega) (by omega) (by omega) (by omega))) (zfB_I (fun c j w => hf c j (by omega) (by omega) (by omega) (by omega) (by omega) (by omega) (by omega) (by omega) (by omega)))
    · rw [show lf43 σ a1 a2 a3 a4 a5 = (lwd σ 4, 0) from (if_pos hs).trans (if_neg hw)] at hQ
      have h1 : (lwR σ).2.2.1 a1.toNat = 1 := (hI.2.2.1 a1.toNat (by omega)).resolve_left hw
      rcases hv with w1 | ⟨w1, ⟨w2, rfl, w3⟩ | w2⟩
      · exact absurd hs w1.1
      · exact hQ I' _ _ _ (lwB_e hP (by decide) hI w3 ⟨⟨hb1, hb2, (hf _ _ (by omega) (by omega) (by omega) (by omega) (by omega) (by omega) (by omega) (by omega) (by omega)).trans e3⟩, hb4, fun r w => by have z := h2 r w; by_cases y : 0 ≤ a1 ∧ r = a1.toNat; (rw [if_pos y] at z; rw [z, y.2]; exact h1.symm); (rw [if_neg y] at z; exact z), hz6, ⟨(hf _ _ (by omega) (by omega) (by omega) (by omega) (by omega) (by omega) (by omega) (by omega) (by omega)).trans e7, by rw [h3, if_neg (fun y => hw y.2)]⟩, he2⟩ (fun c j w1 w2 => hf c j (by omega) (by omega) (by omega) (by omega) (by omega) (by omega) (by omega) (by omega) (by omega))) (zfB_I (fun c j w => hf c j (by omega) (by omega) (by omega) (by omega) (by omega) (by omega) (by omega) (by omega) (by omega)))
      · exact absurd w2.1 hw
  · rw [show lf43 σ a1 a2 a3 a4 a5 = (lwd σ 2, 0) from if_neg hs] at hQ
    rcases hv with ⟨w1, rfl, w3⟩ | w1
    · exact hQ I' _ _ _ (lwB_e hP (by decide) hI w3 ⟨⟨hb1, hb2, (hf _ _ (by omega) (by omega) (by omega) (by omega) (by omega) (by omega) (by omega) (by omega) (by omega)).trans e3⟩, hb4, fun r w => (h2 r w).trans (if_neg (by have w' : r < (lwR σ).1.1 := w; omega)), hz6, ⟨(hf _ _ (by omega) (by omega) (by omega) (by omega) (by omega) (by omega) (by omega) (by omega) (by omega)).trans e7, by rw [h3, if_neg (fun y => hs y.1)]⟩, he2⟩ (fun c j w1 w2 => hf c j (by omega) (by omega) (by omega) (by omega) (by omega) (by omega) (by omega) (by omega) (by omega))) (zfB_I (fun c j w => hf c j (by omega) (by omega) (by omega) (by omega) (by omega) (by omega) (by omega) (by omega) (by omega)))
    · exact absurd w1.1 hs)
