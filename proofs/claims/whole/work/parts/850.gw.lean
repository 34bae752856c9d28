/-! gw: SCRIPTS: what is told of a script and its run, both sides -/
def scU (w : List Int) (u : Int) : List Int := if (u = 10 ∨ (32 ≤ u ∧ u ≤ 126)) ∧ w.length < 400 then w ++ [u] else w
theorem scU_s {tp : List Int} {i : Nat} : ((tF tp (i + 1)).take 400) = scU ((tF tp i).take 400) (wAt tp i) := by
  have hl : ((tF tp i).take 400).length = min 400 (tF tp i).length := List.length_take
  unfold scU
  by_cases q : wAt tp i = 10 ∨ (32 ≤ wAt tp i ∧ wAt tp i ≤ 126)
  · rw [tF_y q]
    by_cases h : (tF tp i).length < 400
    · rw [if_pos ⟨q, by omega⟩, List.take_of_length_le (by rw [List.length_append]; show _ + 1 ≤ 400; omega), List.take_of_length_le (by omega)]
    · rw [if_neg (fun z => by omega), List.take_append_of_le_length (by omega)]
  · rw [tF_n q, if_neg (fun z => q z.1)]
theorem eTx_w {w : List Int} (h : tOk (tC w) w.length) (hl : w.length ≤ 400) : eTx w.length (tC w) := ⟨hl, h.2.2, fun p => by
  by_cases q : p < w.length
  · have := h.2.1 p q; omega
  · rw [h.2.2 p (by omega)]; decide⟩
theorem sc_ok {tp : List Int} : eTx (tTk tp 400).length (tC (tTk tp 400)) ∧ ∀ p, p < (tTk tp 400).length → 0 ≤ tC (tTk tp 400) p := by
  have h := tC_ok (tp := tp) (r := 400) (by decide)
  have hl : (tTk tp 400).length = min 400 (tF tp tp.length).length := List.length_take
  exact ⟨eTx_w h (by omega), fun p hp => by have := h.2.1 p hp; omega⟩
/-- what is told -/
def scEr (er : Int × Int × Int) (k : Int) : Int := if k = 0 then er.1 else if k = 1 then er.2.1 else if k = 2 then er.2.2 else -1
def scOu (D : DtT) (i : Int) : Int := if 0 ≤ i ∧ i < D.2.1.1 then D.2.1.2 i.toNat else 1099511627776
def scDe (E : EvE) (l : CdL) : Int := if evF E l = 0 then (if evV E l = 0 then 0 else 1) else -2
def scDm (R : Nat → OrT) (D : DtT) (k : Int) : Int := if 0 ≤ k ∧ k < D.2.2.1 then scDe D.1 (R (D.2.2.2 k.toNat)).2.2.2.2.1 else -1
/-- a script read, its text w -/
def scV (w : List Int) : Prop := (eTx w.length (tC w) ∧ ∀ p, p < w.length → 0 ≤ tC w p) ∧ itR (rdS (tC w) w.length) rdX0 (scX w) ∧ rdEn w.length (scX w) ∧ rdI w.length (scX w) ∧ (scX w).1 = 1
/-- the class's side -/
def scA (w : List Int) (D : DtT) (er : Int × Int × Int) (I L : ZI) (R : ZR) : Prop := ∃ k k2 : Nat, ((k = 130 ∧ k2 = 134) ∨ (k = 134 ∧ k2 = 130)) ∧ (R 40 15 = some k ∧ R 40 16 = some k2 ∧ R 138 0 = some k) ∧ zEt k w.length (tC w) I ∧ ∃ (cl fn vv : Nat → Int) (G : WkG), zCl k w.length cl fn I ∧ scOk w.length (tC w) cl fn (scP (scX w) 0) G ∧ (0 < D.2.2.1 → vv = D.1.1) ∧ zRn w.length (tC w) (scP (scX w) 0) ((vv, D.1.2), D.2) er I L
def scK (c j : Nat) : Prop := (c = 138 ∧ (j = 3 ∨ j = 6 ∨ j = 8 ∨ j = 10 ∨ (13 ≤ j ∧ j ≤ 15))) ∨ c = 144 ∨ (130 ≤ c ∧ c ≤ 137)
theorem scA_fr {w : List Int} {D : DtT} {er : Int × Int × Int} {I L I' L' : ZI} {R R' : ZR} (h : scA w D er I L R) (hf : ∀ c j : Nat, scK c j → I' c j = I c j) (hl : ∀ c j : Nat, c = 139 ∨ c = 140 ∨ c = 142 ∨ c = 143 → L' c j = L c j) (hr : R' 40 15 = R 40 15 ∧ R' 40 16 = R 40 16 ∧ R' 138 0 = R 138 0) : scA w D er I' L' R' := by
  obtain ⟨k, k2, h1, h2, h3, cl, fn, vv, G, h4, h5, h6, h7⟩ := h
  exact ⟨k, k2, h1, ⟨hr.1.trans h2.1, hr.2.1.trans h2.2.1, hr.2.2.trans h2.2.2⟩, zEt_fr h3 (fun c j q => hf c j (by unfold scK; omega)), cl, fn, vv, G, zCl_fr h4 (fun c j q => hf c j (by unfold scK; omega)), h5, h6, zRn_fr h7 (fun c j q => hf c j (by unfold scK; omega)) hl⟩
/-- the reference's side -/
def zRq (g : Nat) (D : DtT) (er : Int × Int × Int) (I L : ZI) : Prop := zRv D.1 I L ∧ ((I 234 36 = D.2.1.1 ∧ D.2.1.1 ≤ 40) ∧ ∀ i : Nat, i < D.2.1.1 → I 254 i = D.2.1.2 i) ∧ ((I 234 38 = D.2.2.1 ∧ D.2.2.1 ≤ 8) ∧ ∀ j : Nat, j < D.2.2.1 → I 255 j = I 242 (600 * g + D.2.2.2 j)) ∧ (I 234 46 = er.1 ∧ I 234 47 = er.2.1 ∧ I 234 48 = er.2.2) ∧ I 234 32 = -1
theorem zRq_fr {g : Nat} {D : DtT} {er : Int × Int × Int} {I L I' L' : ZI} (h : zRq g D er I L) (hf : ∀ c j : Nat, (c = 234 ∧ (j = 28 ∨ j = 30 ∨ j = 32 ∨ j = 36 ∨ j = 38 ∨ (46 ≤ j ∧ j ≤ 48))) ∨ c = 242 ∨ c = 254 ∨ c = 255 → I' c j = I c j) (hl : ∀ c j : Nat, c = 251 ∨ c = 252 ∨ c = 253 → L' c j = L c j) : zRq g D er I' L' := ⟨zRv_fr h.1 (fun c j q => hf c j (by omega)) (fun c j q => hl c j (by omega)), ⟨⟨(hf _ _ (by omega)).trans h.2.1.1.1, h.2.1.1.2⟩, fun i hi => (hf _ _ (by omega)).trans (h.2.1.2 i hi)⟩, ⟨⟨(hf _ _ (by omega)).trans h.2.2.1.1.1, h.2.2.1.1.2⟩, fun i hi => (hf _ _ (by omega)).trans ((h.2.2.1.2 i hi).trans (hf _ _ (by omega)).symm)⟩, ⟨(hf _ _ (by omega)).trans h.2.2.2.1.1, (hf _ _ (by omega)).trans h.2.2.2.1.2.1, (hf _ _ (by omega)).trans h.2.2.2.1.2.2⟩, (hf _ _ (by omega)).trans h.2.2.2.2⟩
def scB (w : List Int) (D : DtT) (er : Int × Int × Int) (I L : ZI) : Prop := ∃ g : Nat, (I 234 3 = g ∧ g ≤ 1) ∧ I 234 1 = 0 ∧ I 238 (600 * g + (scX w).2.2.1) = 20 ∧ orA g (scX w).2.2.2.1 (scX w).2.2.1 (scX w).2.2.2.2.2.2.1 I ∧ (0 < w.length → ∀ f : Nat, f < 26 → I 244 (26 * g + f) = (scX w).2.2.2.2.2.2.2 f) ∧ zRq g D er I L
theorem scB_fr {w : List Int} {D : DtT} {er : Int × Int × Int} {I L I' L' : ZI} (h : scB w D er I L) (hf : ∀ c j : Nat, (c = 234 ∧ (j = 1 ∨ j = 3 ∨ j = 28 ∨ j = 30 ∨ j = 32 ∨ j = 36 ∨ j = 38 ∨ (46 ≤ j ∧ j ≤ 48))) ∨ (238 ≤ c ∧ c ≤ 246) ∨ c = 254 ∨ c = 255 → I' c j = I c j) (hl : ∀ c j : Nat, c = 251 ∨ c = 252 ∨ c = 253 → L' c j = L c j) : scB w D er I' L' := by
  obtain ⟨g, h1, h2, h3, h4, h5, h6⟩ := h
  exact ⟨g, ⟨(hf _ _ (by omega)).trans h1.1, h1.2⟩, (hf _ _ (by omega)).trans h2, (hf _ _ (by omega)).trans h3, orA_fr h4 (Nat.le_refl _) (fun c j a b _ => hf c j (by omega)) (fun c j a _ => hf c j (by omega)), fun h0 f hf2 => (hf _ _ (by omega)).trans (h5 h0 f hf2), zRq_fr h6 (fun c j q => hf c j (by omega)) hl⟩
