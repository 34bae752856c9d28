/-! CUTS, the reference: numbers of copper, plans, the nearest pair -/
noncomputable def cuNc (w : List CuR) : Nat := zct (cuIr (cuEE w)) (cuNp w)
def cuPla (w : List CuR) (pc p : Nat) : Int := if p < pc then cg w p 1 else -1
theorem cuPla_c (w : List CuR) (pc p : Nat) : (p < pc ∧ cuPla w pc p = cg w p 1) ∨ (pc ≤ p ∧ cuPla w pc p = -1) := by
  unfold cuPla
  by_cases h : p < pc
  · rw [if_pos h]; exact Or.inl ⟨h, rfl⟩
  · rw [if_neg h]; exact Or.inr ⟨by omega, rfl⟩
theorem zLb_k2 {n m : Nat} {E : Nat → Nat → Prop} {L : Nat → Int} (h : zLb n E L) (hm : m < n) : L m = cuRo E m ∧ cuRo E m ≤ m ∧ cuIr E (cuRo E m) := by
  have z := h.1 m hm
  have z2 := zLb_r h hm
  have z3 := zLb_r h (p := cuRo E m) (by omega)
  refine ⟨z2, by omega, ?_⟩
  unfold cuIr
  have z4 := z.2.2.1
  rw [z2, Int.toNat_natCast, z3] at z4
  omega
theorem cuNo_r {E : Nat → Nat → Prop} {p : Nat} (h : cuIr E p) : cuNo E p = zct (cuIr E) p := by
  unfold cuNo
  rw [show cuRo E p = p from h]
theorem cuNo_o {E : Nat → Nat → Prop} {p : Nat} (h : cuIr E (cuRo E p)) : cuNo E (cuRo E p) = cuNo E p := by
  rw [cuNo_r h]
  rfl
/-- those ahead of p, q: the reference goes by the higher one -/
def cuBg (p q x y : Nat) : Prop := y < q ∨ (y = q ∧ x < p)
def cuNg (w : List CuR) (pc : Nat) (net : Int) (mk : Nat → Int) (p q : Nat) (u lo hi sq : Int) : Prop := (u = 0 ∧ ∀ x y, cuAp w pc net mk x y → ¬ cuBg p q x y) ∨
  (u = 1 ∧ ∃ a b : Nat, lo = a ∧ hi = b ∧ sq = cuSq w a b 0 ∧ (cuAp w pc net mk a b ∧ cuBg p q a b) ∧ ∀ x y, cuAp w pc net mk x y → cuBg p q x y → cuSq w a b 0 < cuSq w x y 0 ∨ (cuSq w a b 0 = cuSq w x y 0 ∧ (a < x ∨ (a = x ∧ b ≤ y))))
section
variable {w : List CuR} {pc p q : Nat} {net u lo hi sq : Int} {mk : Nat → Int}
theorem cuNg_0 : cuNg w pc net mk 0 0 0 lo hi sq := Or.inl ⟨rfl, fun x y h1 h2 => by unfold cuBg at h2; omega⟩
theorem cuNg_s (h : cuNg w pc net mk p q u lo hi sq) (hn : ¬ cuAp w pc net mk p q) : cuNg w pc net mk (p + 1) q u lo hi sq := by
  rcases h with ⟨h1, h2⟩ | ⟨h1, a, b, h2, h3, h4, h5, h6⟩
  · refine Or.inl ⟨h1, fun x y g1 g2 => ?_⟩
    unfold cuBg at g2
    by_cases e : x = p ∧ y = q
    · obtain ⟨rfl, rfl⟩ := e
      exact hn g1
    · exact h2 x y g1 (by unfold cuBg; omega)
  · refine Or.inr ⟨h1, a, b, h2, h3, h4, ⟨h5.1, by have := h5.2; unfold cuBg at this ⊢; omega⟩, fun x y g1 g2 => ?_⟩
    unfold cuBg at g2
    by_cases e : x = p ∧ y = q
    · obtain ⟨rfl, rfl⟩ := e
      exact absurd g1 hn
    · exact h6 x y g1 (by unfold cuBg; omega)
theorem cuNg_u (h : cuNg w pc net mk p q u lo hi sq) (hp : cuAp w pc net mk p q) (hr : u = 0 ∨ cuSq w p q 0 < sq ∨ (cuSq w p q 0 = sq ∧ ((p : Int) < lo ∨ ((p : Int) = lo ∧ (q : Int) < hi)))) {lo' hi' sq' : Int} (e1 : lo' = p) (e2 : hi' = q) (e3 : sq' = cuSq w p q 0) : cuNg w pc net mk (p + 1) q 1 lo' hi' sq' := by
  refine Or.inr ⟨rfl, p, q, e1, e2, e3, ⟨hp, by unfold cuBg; omega⟩, fun x y g1 g2 => ?_⟩
  unfold cuBg at g2
  by_cases e : x = p ∧ y = q
  · obtain ⟨rfl, rfl⟩ := e
    exact Or.inr ⟨rfl, Or.inr ⟨rfl, Nat.le_refl _⟩⟩
  · rcases h with ⟨h1, h2⟩ | ⟨h1, a, b, h2, h3, h4, h5, h6⟩
    · exact absurd (show cuBg p q x y by unfold cuBg; omega) (h2 x y g1)
    · have z := h6 x y g1 (by unfold cuBg; omega)
      omega
theorem cuNg_k (h : cuNg w pc net mk p q u lo hi sq) (hr : u ≠ 0) (hl : ¬ (cuSq w p q 0 < sq ∨ (cuSq w p q 0 = sq ∧ ((p : Int) < lo ∨ ((p : Int) = lo ∧ (q : Int) < hi))))) : cuNg w pc net mk (p + 1) q u lo hi sq := by
  rcases h with ⟨h1, h2⟩ | ⟨h1, a, b, h2, h3, h4, h5, h6⟩
  · exact absurd h1 hr
  · refine Or.inr ⟨h1, a, b, h2, h3, h4, ⟨h5.1, by have := h5.2; unfold cuBg at this ⊢; omega⟩, fun x y g1 g2 => ?_⟩
    unfold cuBg at g2
    by_cases e : x = p ∧ y = q
    · obtain ⟨rfl, rfl⟩ := e
      omega
    · exact h6 x y g1 (by unfold cuBg; omega)
theorem cuNg_i (h : cuNg w pc net mk p q u lo hi sq) (hb : q ≤ p) : cuNg w pc net mk 0 (q + 1) u lo hi sq := by
  rcases h with ⟨h1, h2⟩ | ⟨h1, a, b, h2, h3, h4, h5, h6⟩
  · exact Or.inl ⟨h1, fun x y g1 g2 => h2 x y g1 (by have := g1.1; unfold cuBg at g2 ⊢; omega)⟩
  · exact Or.inr ⟨h1, a, b, h2, h3, h4, ⟨h5.1, by have := h5.2; have := h5.1.1; unfold cuBg at *; omega⟩, fun x y g1 g2 => h6 x y g1 (by have := g1.1; unfold cuBg at g2 ⊢; omega)⟩
theorem cuNg_b (h : cuNg w pc net mk p q u lo hi sq) : (u = 0 ∨ u = 1) ∧ (u = 1 → (0 ≤ lo ∧ lo < hi ∧ hi < pc) ∧ mk lo.toNat ≠ mk hi.toNat) := by
  rcases h with ⟨h1, h2⟩ | ⟨h1, a, b, h2, h3, h4, h5, h6⟩
  · exact ⟨Or.inl h1, fun q => by omega⟩
  · refine ⟨Or.inr h1, fun _ => ?_⟩
    have z := h5.1.1
    subst h2 h3
    exact ⟨by omega, h5.1.2.2.2⟩
theorem cuNg_e (h : cuNg w pc net mk p q u lo hi sq) (ha : pc ≤ q) : (u = 0 ∧ cuNx w pc net mk (-1)) ∨ (u = 1 ∧ cuNx w pc net mk (60 * lo + hi)) := by
  rcases h with ⟨h1, h2⟩ | ⟨h1, a, b, h2, h3, h4, h5, h6⟩
  · exact Or.inl ⟨h1, Or.inl ⟨rfl, fun x y g1 => h2 x y g1 (by have := g1.1; unfold cuBg; omega)⟩⟩
  · refine Or.inr ⟨h1, Or.inr ⟨a, b, by rw [h2, h3], h5.1, fun x y g1 => h6 x y g1 (by have := g1.1; unfold cuBg; omega)⟩⟩
end
theorem cuSq_d {w : List CuR} {a b : Nat} (hG : cuG w) (ha : a < w.length) (hb : b < w.length) (h1 : cg w a 0 ≠ 0) (h2 : cg w b 0 ≠ 0) : (cuE w a 1 0 - cuE w b 1 0) * (cuE w a 1 0 - cuE w b 1 0) + (cuE w a 0 0 - cuE w b 0 0) * (cuE w a 0 0 - cuE w b 0 0) = cuSq w a b 0 := by
  unfold cuSq cuGx
  rw [cuE_1 hG ha h1, cuE_1 hG ha h1, cuE_1 hG hb h2, cuE_1 hG hb h2]
  have f : ∀ x y : Int, (x - y) * (x - y) = cuGp x x y y 0 * cuGp x x y y 0 := fun x y => by
    unfold cuGp
    rcases Int.le_total x y with q | q
    · rw [show max 0 (max (y - x) (x - y) - 0) = -(x - y) by omega, Int.neg_mul_neg]
    · rw [show max 0 (max (y - x) (x - y) - 0) = x - y by omega]
  rw [f, f]
theorem cuEw_0 {w : List CuR} {i : Nat} (h : cg w i 0 = 1) : cuEw w i = 0 := if_neg (by omega)
theorem cuNx_f {w : List CuR} {pc : Nat} {net : Int} {mk : Nat → Int} {u lo hi sq : Int} {p q : Nat} (h : cuNg w pc net mk p q u lo hi sq) (hu : u = 1) : (60 * lo + hi) / 60 = lo ∨ 60 ≤ hi := by
  have z := (cuNg_b h).2 hu
  omega
