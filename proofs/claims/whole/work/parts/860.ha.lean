/-! ha: SCRIPTS: the facts of a board's route nets (al: airlines) -/
def fcV (s : BdS) (al : Nat → Int) (n q : Nat) : Int := if bnn s ≤ n then -1 else if q = 0 then bN s n 0 else if q = 1 then bN s n 1 else if q = 2 then bN s n 2 else if q = 3 then (if bN s n 2 = 1 then bN s n 3 else -1) else if q = 4 then bN s n 4 else al n
theorem fcV_n {s : BdS} {al : Nat → Int} {n q : Nat} (h : bnn s ≤ n) : fcV s al n q = -1 := if_pos h
theorem fcV_0 {s : BdS} {al : Nat → Int} {n : Nat} (h : n < bnn s) : fcV s al n 0 = bN s n 0 := (if_neg (by omega)).trans (if_pos rfl)
theorem fcV_1 {s : BdS} {al : Nat → Int} {n : Nat} (h : n < bnn s) : fcV s al n 1 = bN s n 1 := (if_neg (by omega)).trans rfl
theorem fcV_2 {s : BdS} {al : Nat → Int} {n : Nat} (h : n < bnn s) : fcV s al n 2 = bN s n 2 := (if_neg (by omega)).trans rfl
theorem fcV_3 {s : BdS} {al : Nat → Int} {n : Nat} (h : n < bnn s) : fcV s al n 3 = if bN s n 2 = 1 then bN s n 3 else -1 := (if_neg (by omega)).trans rfl
theorem fcV_4 {s : BdS} {al : Nat → Int} {n : Nat} (h : n < bnn s) : fcV s al n 4 = bN s n 4 := (if_neg (by omega)).trans rfl
theorem fcV_5 {s : BdS} {al : Nat → Int} {n : Nat} (h : n < bnn s) : fcV s al n 5 = al n := (if_neg (by omega)).trans rfl
/-- the facts as they lie -/
def fcF (s : BdS) (al : Nat → Int) (j : Nat) : Int := fcV s al (j / 6) (j % 6)
def fcE (s : BdS) (al : Nat → Int) (E : EvE) : EvE := (E.1, 12, fcF s al, E.2.2.2)
theorem fc_row {s : BdS} {al : Nat → Int} {m : Nat} {f f' : Nat → Int} (h : ∀ j, j < 6 * m → f j = fcF s al j) (h0 : f' (6 * m) = fcV s al m 0) (h1 : f' (6 * m + 1) = fcV s al m 1) (h2 : f' (6 * m + 2) = fcV s al m 2) (h3 : f' (6 * m + 3) = fcV s al m 3) (h4 : f' (6 * m + 4) = fcV s al m 4) (h5 : f' (6 * m + 5) = fcV s al m 5) (hf : ∀ j, j < 6 * m → f' j = f j) : ∀ j, j < 6 * (m + 1) → f' j = fcF s al j := fun j hj => by
  by_cases q : j < 6 * m
  · exact (hf j q).trans (h j q)
  · unfold fcF
    rcases (show j = 6 * m ∨ j = 6 * m + 1 ∨ j = 6 * m + 2 ∨ j = 6 * m + 3 ∨ j = 6 * m + 4 ∨ j = 6 * m + 5 by omega) with e | e | e | e | e | e
    · rw [e, show 6 * m / 6 = m by omega, show 6 * m % 6 = 0 by omega]; exact h0
    · rw [e, show (6 * m + 1) / 6 = m by omega, show (6 * m + 1) % 6 = 1 by omega]; exact h1
    · rw [e, show (6 * m + 2) / 6 = m by omega, show (6 * m + 2) % 6 = 2 by omega]; exact h2
    · rw [e, show (6 * m + 3) / 6 = m by omega, show (6 * m + 3) % 6 = 3 by omega]; exact h3
    · rw [e, show (6 * m + 4) / 6 = m by omega, show (6 * m + 4) % 6 = 4 by omega]; exact h4
    · rw [e, show (6 * m + 5) / 6 = m by omega, show (6 * m + 5) % 6 = 5 by omega]; exact h5
theorem scA_fc {n : Nat} {e : Nat → Int} {M : WkM} {D : DtT} {vv : Nat → Int} {er : Int × Int × Int} {s : BdS} {al : Nat → Int} {I I' L L' : ZI} (h : zRn n e M ((vv, D.1.2), D.2) er I L) (h3 : I' 138 3 = 12) (hF : ∀ j : Nat, j < 72 → L' 140 j = fcF s al j) (hf : ∀ c j : Nat, ¬ (c = 138 ∧ j = 3) ∧ ¬ (c = 40 ∧ j = 3) → I' c j = I c j) (hl : ∀ c j : Nat, ¬ c = 140 → L' c j = L c j) : zRn n e M ((vv, 12, fcF s al, D.1.2.2.2), D.2) er I' L' := ⟨⟨fun v hv => (hl _ _ (by decide)).trans (h.1.1 v hv), ⟨h3, Nat.le_refl _⟩, hF, ⟨(hf _ _ (by omega)).trans h.1.2.2.2.1.1, h.1.2.2.2.1.2⟩, fun j hj => (hl _ _ (by decide)).trans (h.1.2.2.2.2 j hj)⟩, ⟨⟨(hf _ _ (by omega)).trans h.2.1.1.1, h.2.1.1.2⟩, fun i hi => by rw [hl _ _ (by decide)]; exact h.2.1.2 i hi⟩, ⟨⟨(hf _ _ (by omega)).trans h.2.2.1.1.1, h.2.2.1.1.2⟩, fun i hi => by rw [hf _ _ (by omega)]; exact h.2.2.1.2 i hi⟩, (hf _ _ (by omega)).trans h.2.2.2.1, (hf _ _ (by omega)).trans h.2.2.2.2.1, (hf _ _ (by omega)).trans h.2.2.2.2.2⟩
theorem gCo_n {s : BdS} {n : Nat} (h : n < bnn s) : gCo s (n : Int) = if bN s n 2 = 1 then bN s n 3 else -1 := by
  unfold gCo
  rw [show ((n : Int)).toNat = n from rfl]
  by_cases q : bN s n 2 = 1
  · rw [if_pos q, if_pos ⟨by omega, by omega, q⟩]
  · rw [if_neg q, if_neg (fun z => q z.2.2)]
theorem scB_fc {w : List Int} {D : DtT} {er : Int × Int × Int} {s : BdS} {al : Nat → Int} {I I' L L' : ZI} (h : scB w D er I L) (h3 : I' 234 28 = 12) (hF : ∀ j : Nat, j < 72 → L' 251 j = fcF s al j) (hf : ∀ c j : Nat, (c = 234 ∧ (j = 1 ∨ j = 3 ∨ j = 30 ∨ j = 32 ∨ j = 36 ∨ j = 38 ∨ (46 ≤ j ∧ j ≤ 48))) ∨ (238 ≤ c ∧ c ≤ 246) ∨ c = 254 ∨ c = 255 → I' c j = I c j) (hl : ∀ c j : Nat, c = 252 ∨ c = 253 → L' c j = L c j) : scB w ((D.1.1, 12, fcF s al, D.1.2.2.2), D.2) er I' L' := by
  obtain ⟨g, h1, h2, h3', h4, h5, hV, ⟨h6, h7⟩, ⟨h8, h9⟩, h10, h11⟩ := h
  exact ⟨g, ⟨(hf _ _ (by omega)).trans h1.1, h1.2⟩, (hf _ _ (by omega)).trans h2, (hf _ _ (by omega)).trans h3', orA_fr h4 (Nat.le_refl _) (fun c j a b _ => hf c j (by omega)) (fun c j a _ => hf c j (by omega)), fun h0 f hf2 => (hf _ _ (by omega)).trans (h5 h0 f hf2), ⟨fun v hv => (hl _ _ (by omega)).trans (hV.1 v hv), ⟨h3, Nat.le_refl _⟩, hF, ⟨(hf _ _ (by omega)).trans hV.2.2.2.1.1, hV.2.2.2.1.2⟩, fun j hj => (hl _ _ (by omega)).trans (hV.2.2.2.2 j hj)⟩, ⟨⟨(hf _ _ (by omega)).trans h6.1, h6.2⟩, fun i hi => (hf _ _ (by omega)).trans (h7 i hi)⟩, ⟨⟨(hf _ _ (by omega)).trans h8.1, h8.2⟩, fun i hi => (hf _ _ (by omega)).trans ((h9 i hi).trans (hf _ _ (by omega)).symm)⟩, ⟨(hf _ _ (by omega)).trans h10.1, (hf _ _ (by omega)).trans h10.2.1, (hf _ _ (by omega)).trans h10.2.2⟩, (hf _ _ (by omega)).trans h11⟩
theorem fc_1 {s : BdS} {al : Nat → Int} {m u : Nat} {f f' : Nat → Int} (h : ∀ j, j < 6 * m + u → f j = fcF s al j) (hu : u < 6) (h1 : f' (6 * m + u) = fcV s al m u) (hf : ∀ j, ¬ j = 6 * m + u → f' j = f j) : ∀ j, j < 6 * m + (u + 1) → f' j = fcF s al j := fun j hj => by
  by_cases q : j = 6 * m + u
  · rw [q, h1]
    unfold fcF
    rw [show (6 * m + u) / 6 = m by omega, show (6 * m + u) % 6 = u by omega]
  · exact (hf j q).trans (h j (by omega))
