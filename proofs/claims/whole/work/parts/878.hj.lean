
/-! THE LAW, call by call -/
def lwCal (σ : LwS) : Nat := σ.2.2.1.2.2.2
def lwd (σ : LwS) (d : Int) : LwS := ((d, σ.1.2), σ.2)
def lwt (σ : LwS) (d : Int) (tp : List Int) : LwS := ((d, tp), σ.2)
abbrev ZSpf : Type := LwS → Int → Int → Int → Int → Int → LwS × Int
def lwCA (m : Nat) (f : ZSpf) : Prop := ZSnd 200 11 (zIA.getD m 0) (zTF 40 m lwCal lwA zfA f)
def lwCB (m : Nat) (f : ZSpf) : Prop := ZSnd 200 21 (zIB.getD m 0) (zTG 165 m lwCal lwI lwB zfB f)
theorem lwI_t {σ : LwS} {d : Int} {tp : List Int} (h : lwI σ) (hd : 0 ≤ d ∧ d ≤ 5) (ht : tGb tp) : lwI (lwt σ d tp) := ⟨⟨hd, ht⟩, h.2⟩
theorem zfA_I {I L I' : ZI} {R : ZR} {S : ZS} (hf : ∀ c j : Nat, ¬ (40 ≤ c ∧ c < 165) → I' c j = I c j) : zfA I L R S I' L R S := ⟨rfl, fun c j h => ⟨hf c j h, rfl, rfl⟩⟩
theorem zfA_0 {I L : ZI} {R : ZR} {S : ZS} : zfA I L R S I L R S := zfA_I (fun _ _ _ => rfl)
theorem zfA_IL {I L I' L' : ZI} {R : ZR} {S : ZS} (hf : ∀ c j : Nat, ¬ (40 ≤ c ∧ c < 165) → I' c j = I c j) (hl : ∀ c j : Nat, ¬ (40 ≤ c ∧ c < 165) → L' c j = L c j) : zfA I L R S I' L' R S := ⟨rfl, fun c j h => ⟨hf c j h, hl c j h, rfl⟩⟩
theorem zfA_ILR {I L I' L' : ZI} {R R' : ZR} {S : ZS} (hf : ∀ c j : Nat, ¬ (40 ≤ c ∧ c < 165) → I' c j = I c j) (hl : ∀ c j : Nat, ¬ (40 ≤ c ∧ c < 165) → L' c j = L c j) (hr : ∀ c j : Nat, ¬ (40 ≤ c ∧ c < 165) → R' c j = R c j) : zfA I L R S I' L' R' S := ⟨rfl, fun c j h => ⟨hf c j h, hl c j h, hr c j h⟩⟩
theorem zfB_I {I L I' : ZI} {R : ZR} {S : ZS} (hf : ∀ c j : Nat, c < 165 → I' c j = I c j) : zfB I L R S I' L R S := ⟨⟨Nat.le_refl _, fun _ _ => rfl⟩, fun c j h => ⟨hf c j h, rfl, rfl⟩⟩
theorem zfB_0 {I L : ZI} {R : ZR} {S : ZS} : zfB I L R S I L R S := zfB_I (fun _ _ _ => rfl)
theorem zfB_IL {I L I' L' : ZI} {R : ZR} {S : ZS} (hf : ∀ c j : Nat, c < 165 → I' c j = I c j) (hl : ∀ c j : Nat, c < 165 → L' c j = L c j) : zfB I L R S I' L' R S := ⟨⟨Nat.le_refl _, fun _ _ => rfl⟩, fun c j h => ⟨hf c j h, hl c j h, rfl⟩⟩
/-- what is told, and the tape, are new; the rest is as it was -/
theorem lwA_t {σ : LwS} {I L I' : ZI} {R : ZR} {S : ZS} {d : Int} {tp : List Int} (h : lwA σ I L R S) (hd : 0 ≤ d ∧ d ≤ 5) (ht : tGb tp) (h3 : I' 40 3 = d) (hT : zTA tp I') (hf : ∀ c j : Nat, ¬ (c = 40 ∧ (j = 1 ∨ j = 3)) → ¬ (c = 41) → I' c j = I c j) : lwA (lwt σ d tp) I' L R S := by
  obtain ⟨h0, ⟨h1, h2⟩, _, h4, h5, h6, h7, h8, h9, h10⟩ := h
  exact ⟨lwI_t h0 hd ht, ⟨h1, zStf h2 (fun c j q1 q2 => ⟨hf c j (by omega) (by omega), rfl⟩)⟩, ⟨h3, hT⟩, aR_fr h4 (fun c j q => hf c j (by omega) (by omega)) (fun _ _ _ => rfl) ⟨rfl, rfl⟩, aB_fr h5 (fun c j q => hf c j (by omega) (by omega)) (fun _ _ _ => rfl), aU_fr h6 (fun c j q => hf c j (by omega) (by omega)), aC_fr h7 (fun c j q => hf c j (by omega) (by omega)) ⟨rfl, rfl⟩, aS_fr h8 (fun c j q => hf c j (by unfold scK at q; omega) (by unfold scK at q; omega)) (fun _ _ _ => rfl) ⟨rfl, rfl, rfl⟩, aX_fr h9 (fun c j q => hf c j (by omega) (by omega)), aE_fr h10 (fun c j q => hf c j (by omega) (by omega))⟩
theorem lwB_t {σ : LwS} {I L I' : ZI} {R : ZR} {S : ZS} {d : Int} {tp : List Int} (h : lwB σ I L R S) (hd : 0 ≤ d ∧ d ≤ 5) (ht : tGb tp) (h3 : I' 165 0 = d) (hT : zTB tp I') (hf : ∀ c j : Nat, ¬ (c = 165 ∧ (j = 0 ∨ j = 2)) → ¬ (c = 166) → I' c j = I c j) : lwB (lwt σ d tp) I' L R S := by
  obtain ⟨h0, h1, _, h4, h5, h6, h7, h8, h9, h10⟩ := h
  have f2 : ∀ c j : Nat, 167 ≤ c → I' c j = I c j := fun c j q => hf c j (by omega) (by omega)
  exact ⟨lwI_t h0 hd ht, h1, ⟨h3, hT⟩, bR_fr h4 (zSg_r _) (fun c j q => hf c j (by omega) (by omega)) (fun _ _ _ => rfl) rfl (fun q _ w1 w2 => ⟨fun c j w => f2 c j (by omega), fun c j w => ⟨rfl, rfl⟩⟩), bB_fr h5 (zSg_r _) (fun c j q => hf c j (by omega) (by omega)) ⟨rfl, rfl⟩ (fun g q _ _ w1 w2 w3 => ⟨fun c j w => f2 c j (by omega), fun c j w => ⟨rfl, rfl⟩⟩), bU_fr h6 (fun c j q => hf c j (by omega) (by omega)), bC_fr h7 (zSg_r _) (by rw [hf _ _ (by omega) (by omega)]; exact h7.1.2.1) (fun j q => by rw [hf _ _ (by omega) (by omega)]; exact h7.1.2.2 j q) (fun c j q => hf c j (by omega) (by omega)) ⟨rfl, rfl⟩ (fun q _ w1 w2 => ⟨fun c j w => f2 c j (by omega), fun c j w => rfl, fun c j w => rfl⟩), bS_fr h8 (fun c j q => f2 c j (by omega)) (fun c j q => rfl), bX_fr h9 (fun c j q => hf c j (by omega) (by omega)), bE_fr h10 (fun c j q => f2 c j (by omega))⟩
theorem lwA_d {σ : LwS} {I L I' : ZI} {R : ZR} {S : ZS} {d : Int} (h : lwA σ I L R S) (hd : 0 ≤ d ∧ d ≤ 5) (h3 : I' 40 3 = d) (hf : ∀ c j : Nat, ¬ (c = 40 ∧ j = 3) → I' c j = I c j) : lwA (lwd σ d) I' L R S := lwA_t h hd h.1.1.2 h3 (zTA_fr h.2.2.1.2 (fun c j q => hf c j (by omega))) (fun c j q1 q2 => hf c j (by omega))
theorem lwB_d {σ : LwS} {I L I' : ZI} {R : ZR} {S : ZS} {d : Int} (h : lwB σ I L R S) (hd : 0 ≤ d ∧ d ≤ 5) (h3 : I' 165 0 = d) (hf : ∀ c j : Nat, ¬ (c = 165 ∧ j = 0) → I' c j = I c j) : lwB (lwd σ d) I' L R S := lwB_t h hd h.1.1.2 h3 (zTB_fr h.2.2.1.2 (fun c j q => hf c j (by omega))) (fun c j q1 q2 => hf c j (by omega))
/-- told -/
def lf48 : ZSpf := fun σ _ _ _ _ _ => (σ, σ.1.1)
theorem lwA48 : lwCA 48 lf48 := (sn_Z_tld.up (by decide)).imp (by
  rintro args I L R S Q hz ⟨σ, a1, a2, a3, a4, a5, he, hr, hS, hc, hP, hQ⟩
  exact ⟨σ.1.1, he, hS, hP.2.1.1, hP.2.2.1.1, hQ _ _ _ _ hP zfA_0 (show r32 σ.1.1 from ⟨by have := hP.1.1.1; omega, by have := hP.1.1.1; omega⟩)⟩)
theorem lwB48 : lwCB 48 lf48 := (sn_Y_tld.up (by decide)).imp (by
  rintro args I L R S Q hz ⟨σ, a1, a2, a3, a4, a5, he, hr, hS, hc, hP, hQ⟩
  exact ⟨σ.1.1, he, hS, hP.2.1.1, hP.2.2.1.1, hQ _ _ _ _ hP zfB_0⟩)
/-- feed -/
def lf0 : ZSpf := fun σ a b c d e => if σ.1.2.length + 20 ≤ 4000 then (lwt σ 0 (((((σ.1.2 ++ wB a) ++ wB b) ++ wB c) ++ wB d) ++ wB e), 1) else (lwd σ 1, 0)
theorem lf0_y {σ : LwS} {a b c d e : Int} (h : σ.1.2.length + 20 ≤ 4000) : lf0 σ a b c d e = (lwt σ 0 (((((σ.1.2 ++ wB a) ++ wB b) ++ wB c) ++ wB d) ++ wB e), 1) := if_pos h
theorem lf0_n {σ : LwS} {a b c d e : Int} (h : ¬ σ.1.2.length + 20 ≤ 4000) : lf0 σ a b c d e = (lwd σ 1, 0) := if_neg h
theorem lw_wB {t : List Int} {a : Int} : (t ++ wB a).length = t.length + 4 := by rw [List.length_append]; rfl
theorem tGb_5 {t : List Int} {a b c d e : Int} (h : tGb t) (hl : t.length + 20 ≤ 4000) : tGb (((((t ++ wB a) ++ wB b) ++ wB c) ++ wB d) ++ wB e) := tGb_w (tGb_w (tGb_w (tGb_w (tGb_w h (by omega)) (by rw [lw_wB]; omega)) (by rw [lw_wB, lw_wB]; omega)) (by rw [lw_wB, lw_wB, lw_wB]; omega)) (by rw [lw_wB, lw_wB, lw_wB, lw_wB]; omega)
theorem lwA0 : lwCA 0 lf0 := ZSnd.alt (sn_Z_fed.up (by decide)) (sn_Z_fedF.up (by decide)) (by
  rintro args I L R S Q hz ⟨σ, a1, a2, a3, a4, a5, he, hr, hS, hc, hP, hQ⟩
  by_cases hl : σ.1.2.length + 20 ≤ 4000
  · rw [lf0_y hl] at hQ
    exact Or.inl ⟨σ.1.2, a1, a2, a3, a4, a5, he, hS, hP.2.1.1, hP.2.2.1.2, hP.1.1.2, hr, hl, fun I' h3 hT hf => hQ I' _ _ _ (lwA_t hP (by decide) (tGb_5 hP.1.1.2 hl) h3 hT (fun c j q1 q2 => hf c j (by omega) (by omega) (by omega))) (zfA_I (fun c j q => hf c j (by omega) (by omega) (by omega))) (zRb rfl)⟩
  · rw [lf0_n hl] at hQ
    exact Or.inr ⟨σ.1.2, a1, a2, a3, a4, a5, he, hS, hP.2.1.1, hP.2.2.1.2, hP.1.1.2, hr, by omega, fun I' h3 hf => hQ I' _ _ _ (lwA_d hP (by decide) h3 hf) (zfA_I (fun c j q => hf c j (by omega))) (zRb rfl)⟩)
theorem lwB0 : lwCB 0 lf0 := ZSnd.alt (sn_Y_fed.up (by decide)) (sn_Y_fedF.up (by decide)) (by
  rintro args I L R S Q hz ⟨σ, a1, a2, a3, a4, a5, he, hr, hS, hc, hP, hQ⟩
  by_cases hl : σ.1.2.length + 20 ≤ 4000
  · rw [lf0_y hl] at hQ
    exact Or.inl ⟨σ.1.2, a1, a2, a3, a4, a5, he, hS, hP.2.1.1, hP.2.2.1.2, hP.1.1.2, hr, hl, fun I' h3 hT hf => hQ I' _ _ _ (lwB_t hP (by decide) (tGb_5 hP.1.1.2 hl) h3 hT (fun c j q1 q2 => hf c j (by omega) (by omega) (by omega))) (zfB_I (fun c j q => hf c j (by omega) (by omega) (by omega)))⟩
  · rw [lf0_n hl] at hQ
    exact Or.inr ⟨σ.1.2, a1, a2, a3, a4, a5, he, hS, hP.2.1.1, hP.2.2.1.2, hP.1.1.2, hr, by omega, fun I' h3 hf => hQ I' _ _ _ (lwB_d hP (by decide) h3 hf) (zfB_I (fun c j q => hf c j (by omega)))⟩)
/-- end -/
def lf1 : ZSpf := fun σ n _ _ _ _ => if 0 ≤ n ∧ n ≤ σ.1.2.length then (lwt σ 0 (σ.1.2.take n.toNat), 1) else (lwd σ 2, 0)
theorem lf1_y {σ : LwS} {n b c d e : Int} (h : 0 ≤ n ∧ n ≤ σ.1.2.length) : lf1 σ n b c d e = (lwt σ 0 (σ.1.2.take n.toNat), 1) := if_pos h
theorem lf1_n {σ : LwS} {n b c d e : Int} (h : ¬ (0 ≤ n ∧ n ≤ σ.1.2.length)) : lf1 σ n b c d e = (lwd σ 2, 0) := if_neg h
theorem lwA1 : lwCA 1 lf1 := ZSnd.alt (sn_Z_end.up (by decide)) (sn_Z_endN.up (by decide)) (by
  rintro args I L R S Q hz ⟨σ, a1, a2, a3, a4, a5, he, hr, hS, hc, hP, hQ⟩
  by_cases hl : 0 ≤ a1 ∧ a1 ≤ σ.1.2.length
  · rw [lf1_y hl] at hQ
    exact Or.inl ⟨σ.1.2, a1, he, hS, hP.2.1.1, hP.2.2.1.2, hP.1.1.2, hl, fun I' h3 hT hf => hQ I' _ _ _ (lwA_t hP (by decide) (tGb_tk hP.1.1.2 (by omega)) h3 hT (fun c j q1 q2 => hf c j (by omega) (by omega))) (zfA_I (fun c j q => hf c j (by omega) (by omega))) (zRb rfl)⟩
  · rw [lf1_n hl] at hQ
    exact Or.inr ⟨σ.1.2, a1, he, hS, hP.2.1.1, hP.2.2.1.2, hP.1.1.2, hr.1, by omega, fun I' h3 hf => hQ I' _ _ _ (lwA_d hP (by decide) h3 hf) (zfA_I (fun c j q => hf c j (by omega))) (zRb rfl)⟩)
theorem lwB1 : lwCB 1 lf1 := ZSnd.alt (sn_Y_end.up (by decide)) (sn_Y_endN.up (by decide)) (by
  rintro args I L R S Q hz ⟨σ, a1, a2, a3, a4, a5, he, hr, hS, hc, hP, hQ⟩
  by_cases hl : 0 ≤ a1 ∧ a1 ≤ σ.1.2.length
  · rw [lf1_y hl] at hQ
    exact Or.inl ⟨σ.1.2, a1, he, hS, hP.2.1.1, hP.2.2.1.2, hP.1.1.2, hl, fun I' h3 hT hf => hQ I' _ _ _ (lwB_t hP (by decide) (tGb_tk hP.1.1.2 (by omega)) h3 hT (fun c j q1 q2 => hf c j (by omega) (by omega))) (zfB_I (fun c j q => hf c j (by omega) (by omega)))⟩
  · rw [lf1_n hl] at hQ
    exact Or.inr ⟨σ.1.2, a1, he, hS, hP.2.1.1, hP.2.2.1.2, hP.1.1.2, hr.1, by omega, fun I' h3 hf => hQ I' _ _ _ (lwB_d hP (by decide) h3 hf) (zfB_I (fun c j q => hf c j (by omega)))⟩)
