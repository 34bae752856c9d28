/-! ga: SCRIPTS: the class's machine: a variable set -/
theorem zEv_v {E : EvE} {I L I' L' : ZI} {i : Nat} {v : Int} (h : zEv E I L) (hf : ∀ c j : Nat, c = 138 ∧ (j = 3 ∨ j = 6) → I' c j = I c j) (hl : ∀ c j : Nat, c = 140 ∨ c = 142 ∨ (c = 139 ∧ ¬ j = i) → L' c j = L c j) (hv : L' 139 i = v) : zEv (evSv E i v) I' L' := ⟨fun w hw => by
  show L' 139 w = upF E.1 i v w
  unfold upF
  by_cases e : w = i
  · rw [if_pos e, e]; exact hv
  · rw [if_neg e]; exact (hl _ _ (by omega)).trans (h.1 w hw), ⟨(hf _ _ (by omega)).trans h.2.1.1, h.2.1.2⟩, fun j hj => (hl _ _ (by omega)).trans (h.2.2.1 j hj), ⟨(hf _ _ (by omega)).trans h.2.2.2.1.1, h.2.2.2.1.2⟩, fun j hj => (hl _ _ (by omega)).trans (h.2.2.2.2 j hj)⟩
