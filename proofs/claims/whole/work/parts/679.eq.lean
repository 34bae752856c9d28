/-! SHEETS: a text read, by both -/
theorem zRs_61 {R R' : ZR} (h : zRs R) (hf : ∀ c j : Nat, ¬ (c = 61 ∧ j = 0) → ¬ (c = 61 ∧ j = 7) → R' c j = R c j) : zRs R' := fun e he => by
  have z := List.all_eq_true.mp (show (xfR.all fun e => !(Nat.beq e.1 61 && (Nat.beq e.2.1 0 || Nat.beq e.2.1 7))) = true by decide +kernel) e he
  refine (hf e.1 e.2.1 (fun q => ?_) (fun q => ?_)).trans (h e he)
  · rw [q.1, q.2] at z; exact absurd z (by decide)
  · rw [q.1, q.2] at z; exact absurd z (by decide)
def bF (fm : Int) : Nat := if fm = 0 then 1 else 0
theorem bF_le {fm : Int} : bF fm ≤ 1 := by unfold bF; split <;> omega
theorem bF_i {fm : Int} (h : 0 ≤ fm ∧ fm ≤ 1) : fm = 0 ↔ bF fm = 1 := by
  unfold bF
  constructor
  · intro e; rw [if_pos e]
  · intro e
    rcases (show fm = 0 ∨ fm = 1 by omega) with q | q
    · exact q
    · rw [if_neg (by omega)] at e
      exact absurd e (by decide)
theorem zKF_b {k : Nat} {c : Nat → Int} {n : Nat} {fm : Int} {I L : ZI} (hf : 0 ≤ fm ∧ fm ≤ 1) (h : (fm = 0 → zKF k c n 1 I L) ∧ (fm = 1 → zKF k c n 0 I L)) : zKF k c n (bF fm) I L := by
  rcases (show fm = 0 ∨ fm = 1 by omega) with q | q
  · have z := h.1 q
    subst q
    exact z
  · have z := h.2 q
    subst q
    exact z
theorem zVQ_b {k : Nat} {c : Nat → Int} {n : Nat} {v fm : Int} {I L : ZI} (h : (fm = 0 ∧ zVQ k c n 1 v I L) ∨ (fm = 1 ∧ zVQ k c n 0 v I L)) : zVQ k c n (bF fm) v I L := by
  rcases h with ⟨q, z⟩ | ⟨q, z⟩ <;> subst q <;> exact z
theorem tyZ_g {c : Nat → Int} {n b : Nat} {t : TyS} (h : tyZ c n b t = -1) : tyf t = -1 := by
  by_cases q : tyf t = -1
  · exact q
  · unfold tyZ at h
    rw [if_pos q] at h
    exact absurd h q
theorem rd_n {n b : Nat} {t : TyS} (he : tyE n b t) (hf : tyf t = -1) : tyn t ≠ 0 := by
  rcases he with q | q | q
  · exact absurd hf q
  · exact q.2.2
  · exact q.2.2
/-- what the class has of a text that is well -/
theorem rdK {k : Nat} {c : Nat → Int} {n b : Nat} {t : TyS} {I L : ZI} (hc : tOk c n) (hb : b ≤ 1) (h : tRe c n b t) (hz : tyZ c n b t = -1) (hk : zKO k c n b t I L) : (zOB k (tOS c n b t) I L ∧ oGd (tOS c n b t) ∧ oNg (tOS c n b t)) ∧ ∀ j, j < ocn (tOS c n b t) → I (k + 3) j = tyDp t j ∧ tyDp t j ≤ 300 := by
  have hf := tyZ_g hz
  have g := tRe_g hc hb h hf
  have hn := hc.1
  refine ⟨⟨zKO_B hk (by have := g.1; omega), tOS_G hc g, tOS_N g⟩, fun j hj => ?_⟩
  have r := (g.2.2 j hj).2.2.2.2.2.1
  have e := ((hk.2.2.2 j hj).1).2.2
  unfold tyDp
  omega
/-- what the reference has of it -/
theorem rdV {k : Nat} {c : Nat → Int} {n b : Nat} {t : TyS} {I L I' L' : ZI} (hc : tOk c n) (hb : b ≤ 1) (h : tRe c n b t) (hz : tyZ c n b t = -1) (hk : zVO k c n b 1 t I L) (h4 : I' k 4 = tyn t) (hf : ∀ x j : Nat, k + 2 ≤ x → x ≤ k + 9 → I' x j = I x j) (hl : ∀ j : Nat, L' (k + 4) j = L (k + 4) j) : zOM k (tOS c n b t) I' L' ∧ zOU k (tOS c n b t) I' := by
  have hff := tyZ_g hz
  have g := tRe_g hc hb h hff
  refine ⟨zVO_M hk h4 (fun x j h1 h2 => hf x j h1 (by omega)) hl, ?_⟩
  have z := zVO_U9 hk (by have := g.1; omega) (fun j hj e => ((g.2.2 j hj).2.2.2.2.2.2.2.2 e).1)
  exact zOU_fr z (fun x j hx => hf x j (by omega) (by omega))
/-- a text that was read: its last state, by choice -/
noncomputable def rdT (w : List Int) (b : Nat) : TyS := @dite TyS (∃ t, tRe (tC w) w.length b t ∧ tyE w.length b t) (Classical.propDecidable _) (fun h => Classical.choose h) (fun _ => ty0)
theorem rdT_e {w : List Int} {b : Nat} {t : TyS} (h : tRe (tC w) w.length b t) (e : tyE w.length b t) : rdT w b = t := by
  have hx : ∃ t, tRe (tC w) w.length b t ∧ tyE w.length b t := ⟨t, h, e⟩
  unfold rdT
  rw [dif_pos hx]
  have z := Classical.choose_spec hx
  exact tRe_u z.1 h z.2 e
noncomputable def rdO (w : List Int) (b : Nat) : OoS := tOS (tC w) w.length b (rdT w b)
noncomputable def rdF (w : List Int) (b : Nat) : Int := tyZ (tC w) w.length b (rdT w b)
noncomputable def rdP (w : List Int) (b : Nat) (fm : Int) : List Int := wPg (rdO w b) (tyDp (rdT w b)) fm
theorem tyZ_r {c : Nat → Int} {n b : Nat} {t : TyS} (hc : tOk c n) (hb : b ≤ 1) (h : tRe c n b t) : -1 ≤ tyZ c n b t ∧ tyZ c n b t ≤ 9000 := by
  have z := tRe_b hc hb h
  have hn := hc.1
  unfold tyZ
  by_cases q : tyf t = -1
  · rw [if_neg (fun w => w q)]
    split <;> omega
  · rw [if_pos q]
    exact z
def rdC (k : Nat) (w : List Int) (b : Nat) (I L : ZI) : Prop := (rdF w b = I 61 3 ∧ -1 ≤ rdF w b ∧ rdF w b ≤ 9000) ∧ (tRe (tC w) w.length b (rdT w b) ∧ tyE w.length b (rdT w b)) ∧ (rdF w b = -1 → zKO k (tC w) w.length b (rdT w b) I L)
theorem rdC_i {k : Nat} {w : List Int} {b : Nat} {I L : ZI} (hc : tOk (tC w) w.length) (hb : b ≤ 1) (h : zKF k (tC w) w.length b I L) : rdC k w b I L := by
  obtain ⟨t, h1, h2, h3, h4⟩ := h
  unfold rdC rdF
  rw [rdT_e h1 h2]
  exact ⟨⟨h3.symm, tyZ_r hc hb h1⟩, ⟨h1, h2⟩, fun q => (h4 q).1⟩
theorem rdC_k {k : Nat} {w : List Int} {b : Nat} {I L : ZI} (hc : tOk (tC w) w.length) (hb : b ≤ 1) (h : rdC k w b I L) (hz : rdF w b = -1) : (zOB k (rdO w b) I L ∧ oGd (rdO w b) ∧ oNg (rdO w b)) ∧ ∀ j, j < ocn (rdO w b) → I (k + 3) j = tyDp (rdT w b) j ∧ tyDp (rdT w b) j ≤ 300 := by
  exact rdK hc hb h.2.1.1 hz (h.2.2 hz)
def rdD (k : Nat) (w : List Int) (b : Nat) (v : Int) (I L : ZI) : Prop := ((-1 ≤ rdF w b ∧ rdF w b ≤ 9000) ∧ tRe (tC w) w.length b (rdT w b) ∧ tyE w.length b (rdT w b)) ∧ ((rdF w b ≠ -1 ∧ v = -1 - rdF w b) ∨ (rdF w b = -1 ∧ v = ocn (rdO w b) ∧ zOM k (rdO w b) I L ∧ zOU k (rdO w b) I ∧ I k 27 = 1 ∧ 1 ≤ ocn (rdO w b)))
theorem rdD_i {k : Nat} {w : List Int} {b : Nat} {v : Int} {I L : ZI} (hc : tOk (tC w) w.length) (hb : b ≤ 1) (h : zVQ k (tC w) w.length b v I L) : rdD k w b v I L := by
  obtain ⟨t, h1, h2, h3⟩ := h
  unfold rdD rdF rdO
  rw [rdT_e h1 h2]
  refine ⟨⟨tyZ_r hc hb h1, h1, h2⟩, ?_⟩
  rcases h3 with ⟨h3, h4⟩ | ⟨h3, h4, h5, h6, h7, h8, h9⟩
  · exact Or.inl ⟨h3, h4⟩
  · have z := rdV (I' := I) (L' := L) hc hb h1 h3 h5 h6 (fun _ _ _ _ => rfl) (fun _ => rfl)
    have n0 := rd_n h2 (tyZ_g h3)
    exact Or.inr ⟨h3, h4, z.1, z.2, h9, Nat.pos_of_ne_zero n0⟩
/-- what holds of a text that is well, whatever memory -/
theorem rd_ok {w : List Int} {fm : Int} (hc : tOk (tC w) w.length) (hfm : 0 ≤ fm ∧ fm ≤ 1) (hx : ∃ t, tRe (tC w) w.length (bF fm) t ∧ tyE w.length (bF fm) t) (hz : rdF w (bF fm) = -1) : (oGd (rdO w (bF fm)) ∧ oNg (rdO w (bF fm)) ∧ oZe (rdO w (bF fm)) ∧ 1 ≤ ocn (rdO w (bF fm))) ∧ (wPre (rdO w (bF fm)) (tyDp (rdT w (bF fm))) ∧ (∀ m x, m ≤ ocn (rdO w (bF fm)) → x ≤ 200 → (wWr (rdO w (bF fm)) (tyDp (rdT w (bF fm))) fm m x).length + 2900 ≤ 110000) ∧ (∀ j, j < ocn (rdO w (bF fm)) → okd (rdO w (bF fm)) j = 9 → otl (rdO w (bF fm)) j 0 ≤ 2000) ∧ (rdP w (bF fm) fm).length ≤ 110000) ∧ (rdP w (bF fm) fm).length ≤ 26000 := by
  obtain ⟨t, h1, h2⟩ := hx
  have e := rdT_e h1 h2
  unfold rdP rdO
  unfold rdF at hz
  rw [e] at hz ⊢
  have hf := tyZ_g hz
  have g := tRe_g hc bF_le h1 hf
  have n0 := rd_n h2 hf
  refine ⟨⟨tOS_G hc g, tOS_N g, tOS_Z (tOS_G hc g), Nat.pos_of_ne_zero n0⟩, tRe_W hc bF_le h1 hf (Nat.pos_of_ne_zero n0) fm, tRe_pg hc bF_le h1 hf fm (bF_i hfm)⟩
