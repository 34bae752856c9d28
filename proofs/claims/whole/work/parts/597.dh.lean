/-! CUTS, the reference: rules -/
def cuRk (k : Int) : Int := if k < 3 then k else k + 1
theorem cuRk_c (k : Int) : (k < 3 ∧ cuRk k = k) ∨ (3 ≤ k ∧ cuRk k = k + 1) := by
  unfold cuRk
  by_cases h : k < 3
  · rw [if_pos h]; exact Or.inl ⟨h, rfl⟩
  · rw [if_neg h]; exact Or.inr ⟨by omega, rfl⟩
def zCr1 (k : Nat) (rf : Nat → Nat → Int) (r : Nat) (I L : ZI) : Prop := I (k + 9) r = cuRk (rf r 0) ∧ I (k + 10) r = rf r 1 ∧ I (k + 11) r = rf r 2 ∧ L (k + 12) r = rf r 3
def zCr (k nr : Nat) (rf : Nat → Nat → Int) (I L : ZI) : Prop := I k 11 = nr ∧ nr ≤ 30 ∧ ∀ r : Nat, r < nr → zCr1 k rf r I L
theorem zCr_fr {k nr : Nat} {rf : Nat → Nat → Int} {I I' L L' : ZI} (h : zCr k nr rf I L) (hf : ∀ c j : Nat, (c = k ∧ j = 11) ∨ (k + 9 ≤ c ∧ c ≤ k + 11) → I' c j = I c j) (hl : ∀ c j : Nat, c = k + 12 → L' c j = L c j) : zCr k nr rf I' L' :=
  ⟨(hf _ _ (by omega)).trans h.1, h.2.1, fun r hr => ⟨(hf _ _ (by omega)).trans (h.2.2 r hr).1, (hf _ _ (by omega)).trans (h.2.2 r hr).2.1, (hf _ _ (by omega)).trans (h.2.2 r hr).2.2.1, (hl _ _ rfl).trans (h.2.2 r hr).2.2.2⟩⟩
def cuBe (rf : Nat → Nat → Int) (kd c o : Int) (m : Nat) (u : Int) : Prop := (u = -1 ∧ cuVl rf kd c o m = -1) ∨ ((0 ≤ u ∧ u < m) ∧ cuVl rf kd c o m = rf u.toNat 3)
theorem cuBe_0 {rf : Nat → Nat → Int} {kd c o : Int} : cuBe rf kd c o 0 (-1) := Or.inl ⟨rfl, rfl⟩
theorem cuBe_b {rf : Nat → Nat → Int} {kd c o : Int} {m : Nat} {u : Int} (h : cuBe rf kd c o m u) : -1 ≤ u ∧ u < m ∧ (u = -1 ∨ 0 ≤ u) := by
  rcases h with h | h
  · omega
  · omega
theorem cuBe_n {rf : Nat → Nat → Int} {kd c o : Int} {m : Nat} {u : Int} (h : cuBe rf kd c o m u) (q : ¬ (rf m 0 = kd ∧ cuTh rf m c o)) : cuBe rf kd c o (m + 1) u := by
  unfold cuBe
  rw [cuVl_n q]
  rcases h with ⟨h1, h2⟩ | ⟨h1, h2⟩
  · exact Or.inl ⟨h1, h2⟩
  · exact Or.inr ⟨by omega, h2⟩
theorem cuBe_y {rf : Nat → Nat → Int} {kd c o : Int} {m : Nat} (q : rf m 0 = kd ∧ cuTh rf m c o) : cuBe rf kd c o (m + 1) m := by
  unfold cuBe
  rw [cuVl_y q]
  exact Or.inr ⟨by omega, by rw [Int.toNat_natCast]⟩
theorem cuTh_1 {rf : Nat → Nat → Int} {m : Nat} {c : Int} : cuTh rf m c (-1) ↔ cuIs (rf m 1) c := by
  unfold cuTh
  constructor
  · rintro (q | q)
    · exact q.2
    · exact absurd rfl q.1
  · exact fun q => Or.inl ⟨rfl, q⟩
theorem cuTh_2 {rf : Nat → Nat → Int} {m : Nat} {c o : Int} (h : 0 ≤ o) : cuTh rf m c o ↔ ((cuIs (rf m 1) c ∧ cuIs (rf m 2) o) ∨ (cuIs (rf m 1) o ∧ cuIs (rf m 2) c)) := by
  unfold cuTh
  constructor
  · rintro (q | q)
    · have := q.1; omega
    · exact q.2
  · exact fun q => Or.inr ⟨by omega, q⟩
theorem cuVl_5 {nr : Nat} {rf : Nat → Nat → Int} {kd c o : Int} (h : cuRg nr rf) (hk : 4 < kd) : ∀ {r : Nat}, r ≤ nr → cuVl rf kd c o r = -1
  | 0, _ => rfl
  | r + 1, hr => by
    rw [cuVl_n (fun q => by have z := h r (by omega); have := q.1; omega)]
    exact cuVl_5 h hk (by omega)
theorem cuTh_s {rf : Nat → Nat → Int} {m : Nat} {c o : Int} (h : 0 ≤ o) (g : 0 ≤ c) : cuTh rf m c o ↔ cuTh rf m o c := by
  rw [cuTh_2 h, cuTh_2 g]
  constructor
  · rintro (q | q)
    · exact Or.inr q
    · exact Or.inl q
  · rintro (q | q)
    · exact Or.inr q
    · exact Or.inl q
theorem cuVl_s {rf : Nat → Nat → Int} {kd c o : Int} (h : 0 ≤ o) (g : 0 ≤ c) : ∀ r, cuVl rf kd c o r = cuVl rf kd o c r
  | 0 => rfl
  | r + 1 => by
    by_cases q : rf r 0 = kd ∧ cuTh rf r c o
    · rw [cuVl_y q, cuVl_y ⟨q.1, (cuTh_s h g).mp q.2⟩]
    · rw [cuVl_n q, cuVl_n (fun y => q ⟨y.1, (cuTh_s h g).mpr y.2⟩)]
      exact cuVl_s h g r
