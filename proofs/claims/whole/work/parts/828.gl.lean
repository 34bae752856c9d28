/-! gl: a place within what was copied -/
theorem zcpi {α : Type} {F : Nat → Nat → α} {ks kd sp dp n b : Nat} {v : α} (h1 : dp ≤ b) (h2 : b < dp + n) (e : F ks (sp + (b - dp)) = v) : xcpF F ks kd sp dp n kd b = v := by
  unfold xcpF
  rw [if_pos rfl]
  unfold va_cpy
  rw [if_pos ⟨h1, h2⟩]
  exact e
theorem wk_endZ {n : Nat} {c clo fn : Nat → Int} {M : WkM} {G : WkG} {r p i0 i tq j d cl : Nat} {s sx : WkS} (hA : wfA n c clo fn M G) (h : G r p i tq j) (hp : tq ≤ p) (hZ : wkZ M d cl i0 s i sx) : wkZ M d cl i0 s j sx := by
  have w := wf_p hA h
  rw [← wf_e hA h (by omega)]
  exact hZ
theorem wf_let {n : Nat} {c clo fn : Nat → Int} {M : WkM} {G : WkG} (hA : wfA n c clo fn M G) {p : Nat} (h : c p = -1) : n ≤ p := by
  apply Nat.le_of_not_lt
  intro q
  have w := hA.2.2 p q
  omega
