/-! gx: SCRIPTS: the reference's text; what a reading of another text leaves -/
theorem zTx_1 {w : List Int} {u : Int} {I I' : ZI} (h : zTx w.length (tC w) I) (hg : u = 10 ∨ (32 ≤ u ∧ u ≤ 126)) (hl : w.length < 400) (h1 : I' 234 1 = I 234 1 + 1) (hu : I' 235 w.length = u) (hf : ∀ j : Nat, ¬ j = w.length → I' 235 j = I 235 j) : zTx (scU w u).length (tC (scU w u)) I' := by
  have e : scU w u = w ++ [u] := if_pos ⟨hg, hl⟩
  rw [e]
  have el : (w ++ [u]).length = w.length + 1 := by rw [List.length_append]; rfl
  have hw : ∀ p, p < w.length → tC (w ++ [u]) p = tC w p := fun p hp => by
    rw [tC_a (by omega), tC_a hp, wAt_l hp]
  have hu2 : tC (w ++ [u]) w.length = u := by rw [tC_a (by omega), wAt_e]
  refine ⟨?_, ⟨by omega, fun p hp => if_neg (by omega), fun p => ?_⟩, fun p hp => ?_⟩
  · rw [h1, h.1, el]; omega
  · by_cases q : p < w.length
    · rw [hw p q]; exact h.2.1.2.2 p
    · by_cases q2 : p = w.length
      · rw [q2, hu2]; omega
      · rw [show tC (w ++ [u]) p = -1 from if_neg (by omega)]; decide
  · by_cases q : p < w.length
    · rw [hw p q, hf p (by omega)]; exact h.2.2 p q
    · rw [show p = w.length by omega, hu2]; exact hu
theorem zTx_0 {w : List Int} {u : Int} {I I' : ZI} (h : zTx w.length (tC w) I) (hg : ¬ ((u = 10 ∨ (32 ≤ u ∧ u ≤ 126)) ∧ w.length < 400)) (hf : ∀ c j : Nat, (c = 234 ∧ j = 1) ∨ c = 235 → I' c j = I c j) : zTx (scU w u).length (tC (scU w u)) I' := by
  have e : scU w u = w := if_neg hg
  rw [e]
  exact ⟨(hf _ _ (by omega)).trans h.1, h.2.1, fun p hp => (hf _ _ (by omega)).trans (h.2.2 p hp)⟩
theorem zTx_m {n : Nat} {c : Nat → Int} {I I' : ZI} (h : zTx n c I) (hf : ∀ x j : Nat, (x = 234 ∧ j = 1) ∨ x = 235 → I' x j = I x j) : zTx n c I' := ⟨(hf _ _ (by omega)).trans h.1, h.2.1, fun p hp => (hf _ _ (by omega)).trans (h.2.2 p hp)⟩
theorem zTx_n {I : ZI} (h : I 234 1 = 0) : zTx ([] : List Int).length (tC []) I := ⟨h, ⟨Nat.zero_le _, fun p hp => if_neg (Nat.not_lt_zero p), fun p => by rw [show tC [] p = -1 from if_neg (Nat.not_lt_zero p)]; decide⟩, fun p hp => absurd hp (Nat.not_lt_zero p)⟩
theorem zCo_f2 {I I' : ZI} {K : CdL} {b : Nat} (h : zCo b K I) (hf : ∀ x j : Nat, x = 245 ∨ x = 246 → b ≤ j → j < b + K.length → I' x j = I x j) : zCo b K I' := fun t ht => ⟨(hf 245 _ (Or.inl rfl) (by omega) (by omega)).trans (h t ht).1, (hf 246 _ (Or.inr rfl) (by omega) (by omega)).trans (h t ht).2⟩
theorem zOl_f2 {g k : Nat} {l : CdL} {a a' : Int} {I I' : ZI} (h : zOl g k l a I) (ha : a' = a) (hk : k ≤ 1000) (hf : ∀ x j : Nat, x = 245 ∨ x = 246 → 1000 * g ≤ j → j < 1000 * g + 1000 → I' x j = I x j) : zOl g k l a' I' := by
  obtain ⟨q, h1, h2, h3, h4⟩ := h
  refine ⟨q, ha.trans h1, h2, zCo_f2 h3 (fun x j hx b1 b2 => hf x j hx (by omega) ?_), h4⟩
  rw [List.length_append] at b2
  have b3 : j < 1000 * g + q + (l.length + 1) := b2
  omega
theorem zOr_f2 {g k i : Nat} {o : OrT} {I I' : ZI} (h : zOr g k i o I) (hk : k ≤ 1000) (hf : ∀ x : Nat, 238 ≤ x → x ≤ 243 → I' x (600 * g + i) = I x (600 * g + i)) (hc : ∀ x j : Nat, x = 245 ∨ x = 246 → 1000 * g ≤ j → j < 1000 * g + 1000 → I' x j = I x j) : zOr g k i o I' := ⟨⟨(hf 238 (by decide) (by decide)).trans h.1.1, (hf 239 (by decide) (by decide)).trans h.1.2.1, (hf 240 (by decide) (by decide)).trans h.1.2.2.1, (hf 243 (by decide) (by decide)).trans h.1.2.2.2⟩, fun q => zOl_f2 (h.2.1 q) (hf 241 (by decide) (by decide)) hk hc, fun q => zOl_f2 (h.2.2 q) (hf 242 (by decide) (by decide)) hk hc⟩
theorem scV_b {w : List Int} (h : scV w) : (scX w).2.2.1 ≤ 300 ∧ (scX w).2.2.2.1 ≤ 600 := by
  have w2 := h.2.2.2.1.2.2 h.2.2.2.2
  have w3 := h.2.2.2.1.2.1
  have w4 := h.1.1.1
  omega
/-- the demands' orders are told -/
def scDb (w : List Int) (D : DtT) : Prop := ∀ j, j < D.2.2.1 → ∃ p, D.2.2.2 j < (scX w).2.2.1 ∧ (scX w).2.2.2.2.2.2.1 (D.2.2.2 j) = stO (tC w) p ∧ tC w p = 38 ∧ (exEx (tC w) 3 (p + 1)).1 = 1
