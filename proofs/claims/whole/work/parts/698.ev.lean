/-! ev: a release more, as the class holds it -/
theorem rO_15 {n l k : Nat} (h : 1 ≤ n ∧ n ≤ 512) (hu : ∀ m, m < l → 1 < rW n m) (hk : k < rW n l) : rO n l + k < 15 := by
  obtain ⟨h0, h1, h2, h3⟩ := rW_le h
  have e0 : rO n 0 = 0 := rfl
  have e1 : rO n 1 = rO n 0 + rW n 0 := rfl
  have e2 : rO n 2 = rO n 1 + rW n 1 := rfl
  have e3 : rO n 3 = rO n 2 + rW n 2 := rfl
  by_cases hl : l ≤ 3
  · rcases (show l = 0 ∨ l = 1 ∨ l = 2 ∨ l = 3 by omega) with rfl | rfl | rfl | rfl <;> omega
  · exact absurd (hu 3 (by omega)) (by omega)
theorem dTx_1 {w : List CuR} {l : Int} : 1 ≤ (dTx w l).length := by
  have := (dTx_e (w := w) (l := l)).2
  omega
theorem dTx_by {w : List CuR} {l : Int} {i : Nat} (h : i < (dTx w l).length) : 0 ≤ wAt (dTx w l) i ∧ wAt (dTx w l) i ≤ 255 := by
  have hm : wAt (dTx w l) i ∈ dTx w l := by
    unfold wAt
    rw [List.getD_eq_getElem?_getD, List.getElem?_eq_getElem h]
    exact List.getElem_mem h
  have := dTx_c hm
  unfold wCh at this
  omega
theorem zRA_add {cn m : Nat} {t : Nat → Nat → Int} {n : Nat → Nat} {tt : Nat → Int} {I I' : ZI} (h : zRA cn t n I) (hc : cn < 10) (h0 : I' 154 0 = (cn : Int) + 1) (hm : 1 ≤ m ∧ m ≤ 512) (h156 : I' 156 cn = m) (h155 : ∀ j : Nat, j < m → I' 155 (512 * cn + j) = tt j) (htt : ∀ j, j < m → 0 ≤ tt j ∧ tt j ≤ 255) (hd : ∀ l k i : Nat, (∀ p, p < l → 1 < rW m p) → k < rW m l → i < 32 → I' 157 (480 * cn + 32 * (rO m l + k) + i) = rD tt m l k i)
  (hf : ∀ c j : Nat, (c = 155 ∧ j < 512 * cn) ∨ (c = 156 ∧ j < cn) ∨ (c = 157 ∧ j < 480 * cn) → I' c j = I c j) : zRA (cn + 1) (upF t cn tt) (upF n cn m) I' := by
  obtain ⟨h1, h2, h3⟩ := h
  refine ⟨by omega, by omega, fun r hr => ?_⟩
  by_cases e : r = cn
  · subst e
    rw [upF_at, upF_at]
    exact ⟨⟨hm.1, hm.2, h156⟩, fun j hj => ⟨h155 j hj, htt j hj⟩, hd⟩
  · have hr2 : r < cn := by omega
    rw [upF_ne e, upF_ne e]
    obtain ⟨q1, q2, q3⟩ := h3 r hr2
    refine ⟨⟨q1.1, q1.2.1, (hf 156 r (by omega)).trans q1.2.2⟩, fun j hj => ?_, fun l k i a1 a2 a3 => ?_⟩
    · obtain ⟨w1, w2⟩ := q2 j hj
      exact ⟨(hf 155 _ (by omega)).trans w1, w2⟩
    · have w := rO_15 ⟨q1.1, q1.2.1⟩ a1 a2
      exact (hf 157 _ (by omega)).trans (q3 l k i a1 a2 a3)
/-- the number told of a release -/
def rlV (cn N : Nat) (du : Int) : Int := if cn = 10 ∨ 512 < N then -1 else if du = 0 then -5 else cn
theorem rlV_1 {cn N : Nat} {du : Int} (h : cn = 10 ∨ 512 < N) : rlV cn N du = -1 := if_pos h
theorem rlV_5 {cn N : Nat} {du : Int} (h : ¬ (cn = 10 ∨ 512 < N)) (h2 : du = 0) : rlV cn N du = -5 := (if_neg h).trans (if_pos h2)
theorem rlV_y {cn N : Nat} {du : Int} (h : ¬ (cn = 10 ∨ 512 < N)) (h2 : ¬ du = 0) : rlV cn N du = cn := (if_neg h).trans (if_neg h2)
