/-! gq: SCRIPTS: the class's machine when a run is over -/
def zRn (n : Nat) (e : Nat → Int) (M : WkM) (D : DtT) (er : Int × Int × Int) (I L : ZI) : Prop := zEv D.1 I L ∧ ((I 138 8 = D.2.1.1 ∧ D.2.1.1 ≤ 40) ∧ ∀ i : Nat, i < D.2.1.1 → zn (L 143 i) = D.2.1.2 i) ∧ ((I 138 10 = D.2.2.1 ∧ D.2.2.1 ≤ 8) ∧ ∀ i : Nat, i < D.2.2.1 → zDm n e M (D.2.2.2 i) (I 144 i)) ∧ (I 138 13 = er.1 ∧ I 138 14 = er.2.1 ∧ I 138 15 = er.2.2)
section
variable {n : Nat} {e : Nat → Int} {M : WkM} {D : DtT} {er : Int × Int × Int} {s : WkS} {I L I' L' : ZI}
theorem zRn_fr (h : zRn n e M D er I L) (hf : ∀ c j : Nat, (c = 138 ∧ (j = 3 ∨ j = 6 ∨ j = 8 ∨ j = 10 ∨ (13 ≤ j ∧ j ≤ 15))) ∨ c = 144 → I' c j = I c j) (hl : ∀ c j : Nat, c = 139 ∨ c = 140 ∨ c = 142 ∨ c = 143 → L' c j = L c j) : zRn n e M D er I' L' := ⟨zEv_fr h.1 (fun c j q => hf c j (by omega)) (fun c j q => hl c j (by omega)), ⟨⟨(hf _ _ (by omega)).trans h.2.1.1.1, h.2.1.1.2⟩, fun i hi => by rw [hl _ _ (by omega)]; exact h.2.1.2 i hi⟩, ⟨⟨(hf _ _ (by omega)).trans h.2.2.1.1.1, h.2.2.1.1.2⟩, fun i hi => by rw [hf _ _ (by omega)]; exact h.2.2.1.2 i hi⟩, (hf _ _ (by omega)).trans h.2.2.2.1, (hf _ _ (by omega)).trans h.2.2.2.2.1, (hf _ _ (by omega)).trans h.2.2.2.2.2⟩
theorem zRn_s (h : zWk n e M s I L) (hs : ¬ I 138 12 = 0) (hf : ∀ c j : Nat, ¬ (c = 138 ∧ 13 ≤ j ∧ j ≤ 15) → I' c j = I c j) (h3 : I' 138 13 = 0) (h4 : I' 138 14 = -1) (h5 : I' 138 15 = 0) : zRn n e M (wkNd s).1 (wkNd s).2.2 I' L ∧ (wkNd s).2.1 = 2 := by
  have q : s.2.2.1 = 1 := by have w := h.2.2.2.2.1; omega
  rw [wkNd_s q]
  exact ⟨⟨zEv_fr h.1 (fun c j w => hf c j (by omega)) (fun _ _ _ => rfl), ⟨⟨(hf _ _ (by omega)).trans h.2.1.1.1, h.2.1.1.2⟩, h.2.1.2⟩, ⟨⟨(hf _ _ (by omega)).trans h.2.2.1.1.1, h.2.2.1.1.2⟩, fun i hi => by rw [hf _ _ (by omega)]; exact h.2.2.1.2 i hi⟩, h3, h4, h5⟩, rfl⟩
theorem zRn_s2 (h : zWk n e M s I L) (hs : ¬ I 138 12 = 0) : (wkNd s).2.1 = 2 := by
  have q : s.2.2.1 = 1 := by have w := h.2.2.2.2.1; omega
  rw [wkNd_s q]
theorem zRn_n (h : zWk n e M s I L) (hs : I 138 12 = 0) : zRn n e M (wkNd s).1 (wkNd s).2.2 I L ∧ (wkNd s).2.1 = (if I 138 13 = 0 then 0 else 1) := by
  have q : s.2.2.1 = 0 := by have w := h.2.2.2.2.1; omega
  have e1 : wkNd s = (s.1, (if I 138 13 = 0 then 0 else 1), s.2.2.2) := by
    have q1 : ¬ s.2.2.1 = 1 := by omega
    unfold wkNd
    rw [if_neg q1, if_neg q1, h.2.2.2.2.2.1]
  rw [e1]
  exact ⟨⟨h.1, h.2.1, h.2.2.1, h.2.2.2.2.2⟩, rfl⟩
/-- a run's start -/
theorem zWk_0 {E : EvE} (h : zEv E I L) (hM : M.2.2.1 ≤ 300) (hf : ∀ c j : Nat, c = 138 ∧ (j = 3 ∨ j = 6) → I' c j = I c j) (hl : ∀ c j : Nat, c = 140 ∨ c = 142 → L' c j = L c j) (hv : ∀ v : Nat, v < 26 → L' 139 v = 0) (h8 : I' 138 8 = 0) (h10 : I' 138 10 = 0) (h11 : I' 138 11 = M.2.2.1) (h12 : I' 138 12 = 0) (h3 : I' 138 13 = 0) (h4 : I' 138 14 = -1) (h5 : I' 138 15 = 0) : zWk n e M (wkS0 E) I' L' := ⟨⟨hv, ⟨(hf _ _ (by omega)).trans h.2.1.1, h.2.1.2⟩, fun j hj => (hl _ _ (by omega)).trans (h.2.2.1 j hj), ⟨(hf _ _ (by omega)).trans h.2.2.2.1.1, h.2.2.2.1.2⟩, fun j hj => (hl _ _ (by omega)).trans (h.2.2.2.2 j hj)⟩, ⟨⟨h8, Nat.zero_le _⟩, fun i hi => absurd hi (Nat.not_lt_zero i)⟩, ⟨⟨h10, Nat.zero_le _⟩, fun i hi => absurd hi (Nat.not_lt_zero i)⟩, ⟨by rw [h11]; exact (Int.sub_zero _).symm, Nat.zero_le _, hM⟩, ⟨h12, Nat.zero_le _⟩, h3, h4, h5⟩
end
