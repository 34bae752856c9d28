/-! gr: SCRIPTS: both readers side by side: what a segment is -/
theorem wfSt_m {N : Nat} {c cl : Nat → Int} {M : WkM} {G H : WkG} (hm : ∀ r p i to j, G r p i to j → H r p i to j) {r p i to j : Nat} (h : wfSt N c cl M G r p i to j) : wfSt N c cl M H r p i to j := by
  rcases h with ⟨a1, a2, a3, a4, a5, a6⟩ | ⟨r', q, t1, j1, b1, b2, b3, b4, b5, b6, h⟩
  · exact Or.inl ⟨a1, a2, a3, a4, a5, hm _ _ _ _ _ a6⟩
  · refine Or.inr ⟨r', q, t1, j1, b1, b2, b3, b4, hm _ _ _ _ _ b5, b6, ?_⟩
    rcases h with ⟨c1, c2, c4, c5, c6⟩ | ⟨t2, j2, c1, c2, c4, c5, c6, c8, c9, c11, c12, c13⟩ | ⟨c1, c2, c4, c5, c7, c8⟩ | ⟨c1, c2, c3, c4, c5, c6⟩ | ⟨t2, j2, c1, c2, c3, c5, c6, c7, c9, c10, c11, c12⟩ | ⟨c1, c2, c3, c5, c6⟩
    · exact Or.inl ⟨c1, c2, c4, c5, hm _ _ _ _ _ c6⟩
    · exact Or.inr (Or.inl ⟨t2, j2, c1, c2, c4, c5, c6, c8, c9, hm _ _ _ _ _ c11, c12, hm _ _ _ _ _ c13⟩)
    · exact Or.inr (Or.inr (Or.inl ⟨c1, c2, c4, c5, c7, hm _ _ _ _ _ c8⟩))
    · exact Or.inr (Or.inr (Or.inr (Or.inl ⟨c1, c2, c3, c4, c5, hm _ _ _ _ _ c6⟩)))
    · exact Or.inr (Or.inr (Or.inr (Or.inr (Or.inl ⟨t2, j2, c1, c2, c3, c5, c6, c7, hm _ _ _ _ _ c9, c10, c11, hm _ _ _ _ _ c12⟩))))
    · exact Or.inr (Or.inr (Or.inr (Or.inr (Or.inr ⟨c1, c2, c3, c5, hm _ _ _ _ _ c6⟩))))
theorem wfP_m {N : Nat} {c cl : Nat → Int} {M : WkM} {G H : WkG} (hm : ∀ r p i to j, G r p i to j → H r p i to j) {r p i to j : Nat} (h : wfP N c cl M G r p i to j) : wfP N c cl M H r p i to j := ⟨h.1, h.2.1, h.2.2.1, h.2.2.2.1, fun q => (h.2.2.2.2 q).imp (fun w => ⟨w.1, hm _ _ _ _ _ w.2⟩) (fun w => ⟨w.1, wfSt_m hm w.2⟩)⟩
/-- the greatest relation that is so -/
def wfG (N : Nat) (c cl : Nat → Int) (M : WkM) : WkG := fun r p i to j => ∃ H : WkG, (∀ r p i to j, H r p i to j → wfP N c cl M H r p i to j) ∧ H r p i to j
theorem wfG_o {N : Nat} {c cl : Nat → Int} {M : WkM} {r p i to j : Nat} (h : wfG N c cl M r p i to j) : wfP N c cl M (wfG N c cl M) r p i to j := by
  obtain ⟨H, h1, h2⟩ := h
  exact wfP_m (fun _ _ _ _ _ w => ⟨H, h1, w⟩) (h1 _ _ _ _ _ h2)
theorem wfG_i {N : Nat} {c cl : Nat → Int} {M : WkM} {r p i to j : Nat} (h : wfP N c cl M (wfG N c cl M) r p i to j) : wfG N c cl M r p i to j :=
  ⟨fun r p i to j => wfG N c cl M r p i to j ∨ wfP N c cl M (wfG N c cl M) r p i to j, fun r p i to j w => w.elim (fun w => wfP_m (fun _ _ _ _ _ z => Or.inl z) (wfG_o w)) (fun w => wfP_m (fun _ _ _ _ _ z => Or.inl z) w), Or.inr h⟩
theorem wfG_0 {N : Nat} {c cl : Nat → Int} {M : WkM} {r p i : Nat} (hp : p ≤ N) (hi : i ≤ M.2.2.2) (hr : r ≤ 2) : wfG N c cl M r p i p i := wfG_i ⟨⟨Nat.le_refl _, hp⟩, ⟨Nat.le_refl _, hi⟩, hr, fun _ => rfl, fun q => absurd q (Nat.lt_irrefl p)⟩
theorem wfG_b {N : Nat} {c cl : Nat → Int} {M : WkM} {r p i to j : Nat} (h : wfG N c cl M r p i to j) : (p ≤ to ∧ to ≤ N) ∧ (i ≤ j ∧ j ≤ M.2.2.2) ∧ r ≤ 2 := ⟨(wfG_o h).1, (wfG_o h).2.1, (wfG_o h).2.2.1⟩
theorem wfG_n {N : Nat} {c cl : Nat → Int} {M : WkM} {r p i to j : Nat} (h10 : c p = 10) (h : wfG N c cl M r (p + 1) i to j) : wfG N c cl M r p i to j := by
  have b := wfG_b h
  exact wfG_i ⟨⟨by omega, b.1.2⟩, b.2.1, b.2.2, fun q => absurd q (by omega), fun _ => Or.inl ⟨h10, h⟩⟩
theorem wfG_s {N : Nat} {c cl : Nat → Int} {M : WkM} {r p i p' i' to j : Nat} (h10 : ¬ c p = 10) (hp : p < p') (hi : i ≤ i') (h : wfG N c cl M r p' i' to j) (hS : wfSt N c cl M (wfG N c cl M) r p i to j) : wfG N c cl M r p i to j := by
  have b := wfG_b h
  exact wfG_i ⟨⟨by omega, b.1.2⟩, ⟨by omega, b.2.1.2⟩, b.2.2, fun q => absurd q (by omega), fun _ => Or.inr ⟨h10, hS⟩⟩
def agN {α : Type} (f g : Nat → α) (a b : Nat) : Prop := ∀ q, a ≤ q → q < b → f q = g q
theorem agN_r {α : Type} {f : Nat → α} {a b : Nat} : agN f f a b := fun _ _ _ => rfl
theorem agN_t {α : Type} {f g h : Nat → α} {a b b' : Nat} (h1 : agN f g a b) (h2 : agN g h a b') (hb : b' ≤ b) : agN f h a b' := fun q h3 h4 => (h1 q h3 (by omega)).trans (h2 q h3 h4)
theorem agN_s {α : Type} {f g : Nat → α} {a b a' b' : Nat} (h : agN f g a b) (ha : a ≤ a') (hb : b' ≤ b) : agN f g a' b' := fun q h1 h2 => h q (by omega) (by omega)
theorem agN_u {α : Type} {f : Nat → α} {a b i : Nat} {v : α} (hi : b ≤ i) : agN (upF f i v) f a b := fun q _ h2 => if_neg (by omega)
theorem agN_l {α : Type} {f : Nat → α} {a b i : Nat} {v : α} (hi : i < a) : agN (upF f i v) f a b := fun q h1 _ => if_neg (by omega)
theorem agN_ut {α : Type} {f g : Nat → α} {b i : Nat} {v : α} (h : agN f g 0 b) (hi : b ≤ i) : agN (upF f i v) g 0 b := fun q h1 h2 => (if_neg (by omega)).trans (h q h1 h2)
/-- functions known on both sides -/
def fnP (N : Nat) (c : Nat → Int) (p t : Nat) (cl fn : Nat → Int) (R : Nat → OrT) (u : Nat → Int) : Prop := ∀ f, f < 26 → (fn f = -1 ∧ u f = -1) ∨ ∃ q t1 k j1 : Nat, fn f = (q : Int) ∧ u f = (k : Int) ∧ (q < t1 ∧ t1 < p) ∧ j1 < t ∧ ∀ (cl' : Nat → Int) (M : WkM), agN cl' cl 0 p → agN M.1 R 0 t → t ≤ M.2.2.2 → cl' q = (t1 : Int) ∧ wfG N c cl' M 1 (q + 1) k t1 j1 ∧ (M.1 j1).1 = 19
theorem fnP_m {N : Nat} {c : Nat → Int} {p t p' t' : Nat} {cl fn cl' : Nat → Int} {R R' : Nat → OrT} {u : Nat → Int} (h : fnP N c p t cl fn R u) (hp : p ≤ p') (ht : t ≤ t') (hc : agN cl' cl 0 p) (hR : agN R' R 0 t) : fnP N c p' t' cl' fn R' u := fun f hf => by
  rcases h f hf with h | ⟨q, t1, k, j1, h1, h2, h3, h4, h5⟩
  · exact Or.inl h
  · exact Or.inr ⟨q, t1, k, j1, h1, h2, ⟨h3.1, by omega⟩, by omega, fun cl'' M a b d => h5 cl'' M (agN_t a hc hp) (agN_t b hR ht) (by omega)⟩
theorem fnP_e {N : Nat} {c : Nat → Int} {p t : Nat} {cl fn : Nat → Int} {R : Nat → OrT} {u : Nat → Int} (h : fnP N c p t cl fn R u) {f : Nat} (hf : f < 26) : fn f = -1 ↔ u f = -1 := by
  rcases h f hf with h | ⟨q, t1, k, j1, h1, h2, _⟩
  · exact ⟨fun _ => h.2, fun _ => h.1⟩
  · exact ⟨fun z => absurd z (by omega), fun z => absurd z (by omega)⟩
/-- what reading leaves, side by side: a fault at one place, or P of where both are -/
def lkR (N : Nat) (c : Nat → Int) (p t : Nat) (o : List (Int × Nat)) (cl : Nat → Int) (R : Nat → OrT) (y : StR) (X : RdT) (P : Nat → (Nat → OrT) → (Nat → Int) → Prop) : Prop :=
  (y.1 = 0 ∧ ∃ z, itR (rdS c N) X z ∧ z.1 = 0 ∧ z.2.1 = y.2.1) ∨ (y.1 = 1 ∧ (p ≤ y.2.1 ∧ y.2.1 ≤ N) ∧ ∃ t' k' R' u', itR (rdS c N) X (1, y.2.1, t', k', y.2.2.1, o, R', u') ∧ t ≤ t' ∧ agN y.2.2.2.1 cl 0 p ∧ agN R' R 0 t ∧ P t' R' u')
theorem lkR_x {N : Nat} {c : Nat → Int} {p t : Nat} {o : List (Int × Nat)} {cl : Nat → Int} {R : Nat → OrT} {y : StR} {X X0 : RdT} {P : Nat → (Nat → OrT) → (Nat → Int) → Prop} (h0 : itR (rdS c N) X0 X) (h : lkR N c p t o cl R y X P) : lkR N c p t o cl R y X0 P := by
  rcases h with ⟨a, z, b, d⟩ | ⟨a, b, t', k', R', u', d, e⟩
  · exact Or.inl ⟨a, z, itR_t h0 b, d⟩
  · exact Or.inr ⟨a, b, t', k', R', u', itR_t h0 d, e⟩
/-- a block, opened for order of as kind kd at p: to its end -/
def lkB (N : Nat) (c : Nat → Int) (r p t : Nat) (kd : Int) (of : Nat) (o : List (Int × Nat)) (x : StR) (R : Nat → OrT) (u : Nat → Int) (en : Int) (y : StR) (X : RdT) : Prop :=
  (y.1 = 0 ∧ ∃ z, itR (rdS c N) X z ∧ z.1 = 0 ∧ z.2.1 = y.2.1) ∨ (y.1 = 1 ∧ ∃ r' q t' k' R', r = r' + 1 ∧ y.2.1 = q + 1 ∧ (p < q ∧ q < N) ∧ c q = en ∧ itR (rdS c N) X (1, q, t', k', y.2.2.1, (kd, of) :: o, R', u) ∧ t ≤ t' ∧ y.2.2.2.2 = x.2.2.2.2 ∧ y.2.2.2.1 p = (q : Int) ∧ agN y.2.2.2.1 x.2.2.2.1 0 p ∧ agN R' R 0 t ∧ ∀ (cl' : Nat → Int) (M : WkM), agN cl' y.2.2.2.1 (p + 1) q → agN M.1 R' t t' → t' ≤ M.2.2.2 → wfG N c cl' M r' (p + 1) t q t')
theorem lkB_x {N : Nat} {c : Nat → Int} {r p t : Nat} {kd : Int} {of : Nat} {o : List (Int × Nat)} {x : StR} {R : Nat → OrT} {u : Nat → Int} {en : Int} {y : StR} {X X0 : RdT} (h0 : itR (rdS c N) X0 X) (h : lkB N c r p t kd of o x R u en y X) : lkB N c r p t kd of o x R u en y X0 := by
  rcases h with ⟨a, z, b, d⟩ | ⟨a, r', q, t', k', R', b, d, e, f, g, i⟩
  · exact Or.inl ⟨a, z, itR_t h0 b, d⟩
  · exact Or.inr ⟨a, r', q, t', k', R', b, d, e, f, itR_t h0 g, i⟩
