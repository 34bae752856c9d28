/-! gv: SCRIPTS: a text read, both sides: the program -/
theorem scOk_of {N : Nat} {c cl fn : Nat → Int} {R : Nat → OrT} {u : Nat → Int} {t : Nat} {M : WkM} (hc : eTx N c) (hnn : ∀ p, p < N → 0 ≤ c p) (hF : fnP N c N t cl fn R u) (hG : ∀ (cl' : Nat → Int) (M : WkM), agN cl' cl 0 N → agN M.1 R 0 t → t ≤ M.2.2.2 → wfG N c cl' M 2 0 0 N t) (h1 : agN M.1 R 0 t) (h2 : M.2.1 = u) (h3 : M.2.2.2 = t) (h4 : (M.1 t).1 = 20) (h5 : t ≤ 599) : scOk N c cl fn M (wfG N c cl M) := by
  subst h3
  refine ⟨hc, ⟨fun r p i to j h => wfG_o h, fun f hf => ?_, hnn⟩, ⟨2, hG cl M agN_r h1 (Nat.le_refl _)⟩, h4, h5⟩
  rcases hF f hf with h | ⟨q, t1, k, j1, g1, g2, g3, g4, g5⟩
  · exact Or.inl ⟨h.1, by rw [h2]; exact h.2⟩
  · have w := g5 cl M agN_r h1 (Nat.le_refl _)
    exact Or.inr ⟨q, t1, k, j1, g1, by rw [h2]; exact g2, w.1, g3, w.2.1, w.2.2⟩
theorem sc_rd {N : Nat} {c : Nat → Int} (hc : eTx N c) (hnn : ∀ p, p < N → 0 ≤ c p) (cl : Nat → Int) {x : RdT} (h1 : itR (rdS c N) rdX0 x) (h2 : rdEn N x) (h3 : rdI N x) : ((ls0 c (-1) (1, 0, 0, cl, fun _ => -1)).1 = 0 ∧ x.1 = 0 ∧ x.2.1 = (ls0 c (-1) (1, 0, 0, cl, fun _ => -1)).2.1) ∨ ((ls0 c (-1) (1, 0, 0, cl, fun _ => -1)).1 = 1 ∧ x.1 = 1 ∧ x.2.2.2.2.1 = (ls0 c (-1) (1, 0, 0, cl, fun _ => -1)).2.2.1 ∧ ∀ M : WkM, agN M.1 x.2.2.2.2.2.2.1 0 x.2.2.1 → M.2.1 = x.2.2.2.2.2.2.2 → M.2.2.2 = x.2.2.1 → (M.1 x.2.2.1).1 = 20 → ∃ G, scOk N c (ls0 c (-1) (1, 0, 0, cl, fun _ => -1)).2.2.2.1 (ls0 c (-1) (1, 0, 0, cl, fun _ => -1)).2.2.2.2 M G) := by
  have w := lk_top hc cl
  obtain ⟨y, hy⟩ : ∃ y, ls0 c (-1) (1, 0, 0, cl, fun _ => -1) = y := ⟨_, rfl⟩
  rw [hy] at w ⊢
  obtain ⟨a, ha⟩ := h1
  rcases w with ⟨w1, z, ⟨b, hb⟩, w3, w4⟩ | ⟨w1, w2, t', k', R', u', ⟨b, hb⟩, d2, d3, d4, g1, g2, g3, g4⟩
  · have e : x = z := itN_det ha hb (rdS_f hc h2) (rdS_f hc (Or.inl w3))
    rw [e]
    exact Or.inl ⟨w1, w3, w4⟩
  · have hN : y.2.1 = N := by
      by_cases q : y.2.1 < N
      · have := hnn _ q; omega
      · omega
    have e : x = (1, y.2.1, t', k', y.2.2.1, [], R', u') := itN_det ha hb (rdS_f hc h2) (rdS_f hc (Or.inr ⟨rfl, by show ¬ y.2.1 < N; omega, rfl⟩))
    subst e
    have hb := h3.2.2 rfl
    rw [hN] at g3 g4
    exact Or.inr ⟨w1, rfl, rfl, fun M m1 m2 m3 m4 => ⟨_, scOk_of hc hnn (g3 (fun f _ => Or.inl ⟨rfl, rfl⟩)) (fun cl' M' a1 a2 a3 => g4 cl' M' a1 a2 a3) m1 m2 m3 m4 (by have h9 : t' + 0 ≤ 3 * y.2.2.1 := hb.2.1; have h8 : y.2.2.1 ≤ 100 := hb.1; show t' ≤ 599; omega)⟩⟩
/-- the reading of a text, by choice -/
noncomputable def scX (w : List Int) : RdT := @dite _ (∃ x, itR (rdS (tC w) w.length) rdX0 x ∧ rdEn w.length x) (Classical.propDecidable _) (fun h => Classical.choose h) (fun _ => rdX0)
theorem scX_e {w : List Int} {x : RdT} (hc : eTx w.length (tC w)) (h : itR (rdS (tC w) w.length) rdX0 x) (g : rdEn w.length x) : scX w = x := by
  have hx : ∃ x, itR (rdS (tC w) w.length) rdX0 x ∧ rdEn w.length x := ⟨x, h, g⟩
  unfold scX
  rw [dif_pos hx]
  obtain ⟨⟨a, ha⟩, h2⟩ := Classical.choose_spec hx
  obtain ⟨b, hb⟩ := h
  exact itN_det ha hb (rdS_f hc h2) (rdS_f hc g)
/-- its program, for runs of at most l steps -/
def scP (x : RdT) (l : Nat) : WkM := (upF x.2.2.2.2.2.2.1 x.2.2.1 (20, 0, 0, [], [], 0), x.2.2.2.2.2.2.2, l, x.2.2.1)
theorem scP_ok {N : Nat} {c : Nat → Int} (hc : eTx N c) (hnn : ∀ p, p < N → 0 ≤ c p) (cl : Nat → Int) {x : RdT} (h1 : itR (rdS c N) rdX0 x) (h2 : rdEn N x) (h3 : rdI N x) (hx : x.1 = 1) (l : Nat) : ∃ G, scOk N c (ls0 c (-1) (1, 0, 0, cl, fun _ => -1)).2.2.2.1 (ls0 c (-1) (1, 0, 0, cl, fun _ => -1)).2.2.2.2 (scP x l) G := by
  rcases sc_rd hc hnn cl h1 h2 h3 with h | h
  · omega
  · exact h.2.2.2 (scP x l) (agN_u (Nat.le_refl _)) rfl rfl (by show (upF x.2.2.2.2.2.2.1 x.2.2.1 (20, 0, 0, [], [], 0) x.2.2.1).1 = 20; rw [upF_at])
/-- the last order matters by its kind alone -/
theorem mSt_T {R R' : Nat → OrT} {u : Nat → Int} {lim t : Nat} (h : ∀ i, ¬ i = t → R' i = R i) (h1 : (R t).1 = 20) (h2 : (R' t).1 = 20) : mSt R' u lim = mSt R u lim := by
  funext x
  unfold mSt
  dsimp only
  by_cases hd : x.2.2.1.1 = 1
  · rw [if_pos hd, if_pos hd]
  · rw [if_neg hd, if_neg hd]
    by_cases e : x.2.2.2.2.1.toNat = t
    · rw [e, if_pos h1, if_pos h2]
    · rw [h _ e]
