/-! CUTS, the reference: a place and a line -/
theorem cuSq_p {w : List CuR} {s h : Nat} (hG : cuG w) (hh : h < w.length) (hc : cg w h 0 ≠ 0) : cuSq w s h 0 = cuPG w s (cuE w h 1 0) (cuE w h 0 0) := by
  unfold cuSq cuGx cuPG cuP2 cuP1
  rw [cuE_1 hG hh hc, cuE_1 hG hh hc, cuGp_s, cuGp_s (a := cuE w s 0 0)]
theorem cuEn_i {w : List CuR} {t e s : Nat} : cuEn w t e s ↔ ((s ≠ t ∧ cg w s 0 ≠ 3 ∧ cg w s 1 = cg w t 1 ∧ cg w s 2 = cg w t 2) ∧ cuPG w s (cuE w t 1 e) (cuE w t 0 e) ≤ cuRa (cg w s 0) * cuRa (cg w s 0)) := Iff.rfl
theorem cuRn_i {w : List CuR} {h s : Nat} {v : Int} (hG : cuG w) (hh : h < w.length) (hc : cg w h 0 ≠ 0) : cuRn w h v s ↔ (((cg w s 0 = 2 ∨ cg w s 0 = 1) ∧ cg w s 1 = cg w h 1) ∧ 0 ≤ cuRa (cg w s 0) - cuRa (cg w h 0) - v ∧ cuPG w s (cuE w h 1 0) (cuE w h 0 0) ≤ (cuRa (cg w s 0) - cuRa (cg w h 0) - v) * (cuRa (cg w s 0) - cuRa (cg w h 0) - v)) := by
  unfold cuRn
  rw [cuSq_p hG hh hc]
theorem cuBe_v {rf : Nat → Nat → Int} {kd c o : Int} {nr : Nat} {u : Int} (hR : cuRg nr rf) (h : cuBe rf kd c o nr u) : ((u = -1 ∧ cuVl rf kd c o nr = -1) ∨ (0 ≤ u ∧ u < nr ∧ cuVl rf kd c o nr = rf u.toNat 3 ∧ 0 ≤ rf u.toNat 3 ∧ rf u.toNat 3 ≤ 100000)) ∧ (4 < kd → u = -1) := by
  rcases h with h | ⟨h1, h2⟩
  · exact ⟨Or.inl h, fun _ => h.1⟩
  · have z := hR u.toNat (by omega)
    exact ⟨Or.inr ⟨h1.1, h1.2, h2, z.2.2.2.1, z.2.2.2.2⟩, fun q => by rw [cuVl_5 hR q (Nat.le_refl _)] at h2; omega⟩
