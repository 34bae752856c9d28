/-! gc: SCRIPTS: the class's machine: a fact's field set -/
theorem apF_of2 {E : EvE} {A B : CdL} {m : Nat} {a w v pz pz2 v3 pz3 : Int} (h1 : pz = (evF E A : Nat)) (h2 : evF E A = 0 → a = evV E A) (hI : ((0 ≤ a ∧ a < m) ∧ v = w ∧ pz2 = pz) ∨ (¬ (0 ≤ a ∧ a < m) ∧ v = -1 ∧ ((pz = 0 ∧ pz2 = 2) ∨ (¬ pz = 0 ∧ pz2 = pz)))) (h3 : zEo E B pz2 v3 pz3) : pz3 = (apF E A B m : Nat) ∧ (apF E A B m = 0 → (a = evV E A ∧ v = w ∧ v3 = evV E B) ∧ 0 ≤ a ∧ a < m) := by
  unfold apF
  by_cases hA : evF E A ≠ 0
  · rw [if_pos hA]
    have e2 : pz2 = pz := by omega
    have e3 : pz3 = pz2 := h3.1 (by omega)
    exact ⟨by omega, fun q => absurd q hA⟩
  · have hA0 : evF E A = 0 := by omega
    have ea := h2 hA0
    rw [if_neg hA]
    by_cases hr : 0 ≤ evV E A ∧ evV E A < (m : Int)
    · rw [if_neg (fun g => g hr)]
      have e2 : pz2 = 0 ∧ v = w := by omega
      exact ⟨h3.2.1 e2.1, fun q => ⟨⟨ea, e2.2, h3.2.2 q⟩, by omega, by omega⟩⟩
    · rw [if_pos hr]
      have e2 : pz2 = 2 := by omega
      have e3 : pz3 = pz2 := h3.1 (by omega)
      exact ⟨by omega, fun q => absurd q (by decide)⟩
theorem zEv_f {E : EvE} {I L I' L' : ZI} {i : Nat} {v : Int} (h : zEv E I L) (hf : ∀ c j : Nat, c = 138 ∧ (j = 3 ∨ j = 6) → I' c j = I c j) (hl : ∀ c j : Nat, c = 139 ∨ (c = 140 ∧ ¬ j = i) ∨ c = 142 → L' c j = L c j) (hv : L' 140 i = v) : zEv (evSf E i v) I' L' := ⟨fun w hw => (hl _ _ (by omega)).trans (h.1 w hw), ⟨(hf _ _ (by omega)).trans h.2.1.1, h.2.1.2⟩, fun j hj => by
  show L' 140 j = upF E.2.2.1 i v j
  unfold upF
  by_cases e : j = i
  · rw [if_pos e, e]; exact hv
  · rw [if_neg e]; exact (hl _ _ (by omega)).trans (h.2.2.1 j hj), ⟨(hf _ _ (by omega)).trans h.2.2.2.1.1, h.2.2.2.1.2⟩, fun j hj => (hl _ _ (by omega)).trans (h.2.2.2.2 j hj)⟩
