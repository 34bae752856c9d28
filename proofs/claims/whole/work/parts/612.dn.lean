/-! CUTS, the reference: pieces of copper -/
def cuEw (w : List CuR) (i : Nat) : Int := if cg w i 0 = 0 then cuRa (cg w i 0) else 0
def cuEr (w : List CuR) (i : Nat) : Int := if cg w i 0 = 0 then 0 else cuRa (cg w i 0)
theorem cuEw_b {w : List CuR} {i : Nat} : (0 ≤ cuEw w i ∧ cuEw w i ≤ 300) ∧ 0 ≤ cuEr w i ∧ cuEr w i ≤ 300 := by
  have z := cuRa_b (c := cg w i 0)
  unfold cuEw cuEr
  by_cases h : cg w i 0 = 0
  · rw [if_pos h, if_pos h]; omega
  · rw [if_neg h, if_neg h]; omega
def cuPi (pc p : Nat) : Int := if p < pc then p else -1
def cuNn (w : List CuR) (pc q : Nat) : Int := if q < pc then cg w q 1 else -1
theorem cuPi_c (pc p : Nat) : (p < pc ∧ cuPi pc p = p) ∨ (pc ≤ p ∧ cuPi pc p = -1) := by
  unfold cuPi
  by_cases h : p < pc
  · rw [if_pos h]; exact Or.inl ⟨h, rfl⟩
  · rw [if_neg h]; exact Or.inr ⟨by omega, rfl⟩
theorem cuNn_c (w : List CuR) (pc q : Nat) : (q < pc ∧ cuNn w pc q = cg w q 1) ∨ (pc ≤ q ∧ cuNn w pc q = -1) := by
  unfold cuNn
  by_cases h : q < pc
  · rw [if_pos h]; exact Or.inl ⟨h, rfl⟩
  · rw [if_neg h]; exact Or.inr ⟨by omega, rfl⟩
def zPi (k : Nat) (w : List CuR) (pc p i : Nat) (I L : ZI) : Prop := (I (k + 1) p = 1 ∧ I (k + 2) p = cg w i 2 ∧ I (k + 3) p = cuTp w i ∧ I (k + 9) p = cuPi pc p) ∧ (L (k + 4) p = cuE w i 1 0 - cuEw w i ∧ L (k + 5) p = cuE w i 0 0 - cuEw w i) ∧ (L (k + 6) p = cuE w i 1 1 - cuE w i 1 0 + 2 * cuEw w i ∧ L (k + 7) p = cuE w i 0 1 - cuE w i 0 0 + 2 * cuEw w i) ∧ L (k + 8) p = cuEr w i
def zPc (k : Nat) (w : List CuR) (pc : Nat) (I L : ZI) : Prop := I k 2 = cuNp w ∧ (∀ p : Nat, p < cuNp w → zPi k w pc p (cuPx w p) I L) ∧ ∀ q : Nat, q < 40 → I (k + 10) q = cuNn w pc q
theorem zPc_fr {k pc : Nat} {w : List CuR} {I I' L L' : ZI} (h : zPc k w pc I L) (hf : ∀ c j : Nat, (c = k ∧ j = 2) ∨ (k + 1 ≤ c ∧ c ≤ k + 3) ∨ c = k + 9 ∨ c = k + 10 → I' c j = I c j) (hl : ∀ c j : Nat, k + 4 ≤ c ∧ c ≤ k + 8 → L' c j = L c j) : zPc k w pc I' L' :=
  ⟨(hf _ _ (by omega)).trans h.1, fun p hp => by
    obtain ⟨⟨h1, h2, h3, h4⟩, ⟨h5, h6⟩, ⟨h7, h8⟩, h9⟩ := h.2.1 p hp
    exact ⟨⟨(hf _ _ (by omega)).trans h1, (hf _ _ (by omega)).trans h2, (hf _ _ (by omega)).trans h3, (hf _ _ (by omega)).trans h4⟩, ⟨(hl _ _ (by omega)).trans h5, (hl _ _ (by omega)).trans h6⟩, ⟨(hl _ _ (by omega)).trans h7, (hl _ _ (by omega)).trans h8⟩, (hl _ _ (by omega)).trans h9⟩, fun q hq => (hf _ _ (by omega)).trans (h.2.2 q hq)⟩
theorem cuNp_l {w : List CuR} : cuNp w ≤ w.length := zct_le _ _
/-- touching, either way -/
theorem cuTp_b {w : List CuR} {i : Nat} : cg w i 2 ≤ cuTp w i ∧ cuTp w i ≤ cg w i 2 + 1 := by
  unfold cuTp
  by_cases h : cg w i 0 = 3
  · rw [if_pos h]; omega
  · rw [if_neg h]; omega
theorem cuGp_w {a b c d wd : Int} : cuGp a b c d wd = cuGp c d a b wd := by
  unfold cuGp
  omega
theorem cuTo_i {w : List CuR} {a b : Nat} : cuTo w a b ↔ ((cg w a 2 ≤ cuTp w b ∧ cg w b 2 ≤ cuTp w a) ∧ cuGx w a b 1 (cuEw w a + cuEw w b) * cuGx w a b 1 (cuEw w a + cuEw w b) + cuGx w a b 0 (cuEw w a + cuEw w b) * cuGx w a b 0 (cuEw w a + cuEw w b) ≤ (cuEr w a + cuEr w b) * (cuEr w a + cuEr w b)) := by
  have z1 := cuTp_b (w := w) (i := a)
  have z2 := cuTp_b (w := w) (i := b)
  have e : (max (cg w a 2) (cg w b 2) ≤ min (cuTp w a) (cuTp w b)) ↔ (cg w a 2 ≤ cuTp w b ∧ cg w b 2 ≤ cuTp w a) := by omega
  unfold cuTo
  rw [e]
  exact Iff.rfl
theorem cuTo_s {w : List CuR} {a b : Nat} : cuTo w a b ↔ cuTo w b a := by
  have f : ∀ a b, cuTo w a b → cuTo w b a := fun a b h => by
    rw [cuTo_i] at h ⊢
    have e : ∀ ax, cuGx w b a ax (cuEw w b + cuEw w a) = cuGx w a b ax (cuEw w a + cuEw w b) := fun ax => by
      unfold cuGx
      rw [cuGp_w, Int.add_comm]
    rw [e, e, Int.add_comm (cuEr w b)]
    exact ⟨⟨h.1.2, h.1.1⟩, h.2⟩
  exact ⟨f a b, f b a⟩
theorem cuTT_s {w : List CuR} {a b : Nat} : cuTT w a b ↔ cuTT w b a := cuTo_s
/-- sum of labels -/
def zSm (n : Nat) (f : Nat → Int) : Nat := match n with
  | 0 => 0
  | n + 1 => zSm n f + (f n).toNat
theorem zSm_e {f g : Nat → Int} : ∀ {n}, (∀ x, x < n → f x = g x) → zSm n f = zSm n g
  | 0, _ => rfl
  | n + 1, h => by
    show zSm n f + _ = zSm n g + _
    rw [zSm_e (fun x hx => h x (by omega)), h n (by omega)]
theorem zSm_le {f g : Nat → Int} : ∀ {n}, (∀ x, x < n → g x ≤ f x) → zSm n g ≤ zSm n f
  | 0, _ => Nat.le_refl _
  | n + 1, h => by
    have ih := zSm_le (f := f) (g := g) (n := n) (fun x hx => h x (by omega))
    have h2 := h n (by omega)
    show zSm n g + _ ≤ zSm n f + _
    omega
theorem zSm_lt {f g : Nat → Int} : ∀ {n}, (∀ x, x < n → g x ≤ f x) → ∀ y, y < n → 0 ≤ g y → g y < f y → zSm n g < zSm n f
  | 0, _, y, hy, _, _ => absurd hy (Nat.not_lt_zero y)
  | n + 1, h, y, hy, h0, h1 => by
    have h2 := h n (by omega)
    show zSm n g + _ < zSm n f + _
    by_cases e : y = n
    · subst e
      have ih := zSm_le (f := f) (g := g) (n := y) (fun x hx => h x (by omega))
      omega
    · have ih := zSm_lt (f := f) (g := g) (n := n) (fun x hx => h x (by omega)) y (by omega) h0 h1
      omega
theorem zSm_u {f g : Nat → Int} {n a b : Nat} {v : Int} (ha : a < n) (hb : b < n) (hv : v = min (f a) (f b)) (hn : f a ≠ f b) (h0 : 0 ≤ f a ∧ 0 ≤ f b) (e : ∀ x, x < n → g x = if x = a ∨ x = b then v else f x) : zSm n g < zSm n f := by
  have h : ∀ x, x < n → g x ≤ f x := fun x hx => by
    rw [e x hx]
    by_cases q : x = a ∨ x = b
    · rw [if_pos q]
      rcases q with q | q <;> rw [q] <;> omega
    · rw [if_neg q]; exact Int.le_refl _
  rcases Int.lt_or_le (f a) (f b) with q | q
  · exact zSm_lt h b hb (by rw [e b hb, if_pos (Or.inr rfl)]; omega) (by rw [e b hb, if_pos (Or.inr rfl)]; omega)
  · exact zSm_lt h a ha (by rw [e a ha, if_pos (Or.inl rfl)]; omega) (by rw [e a ha, if_pos (Or.inl rfl)]; omega)
/-- labels under way: each is a piece that it is joined to, no higher -/
def zLw (n : Nat) (E : Nat → Nat → Prop) (f : Nat → Int) : Prop := ∀ p : Nat, p < n → 0 ≤ f p ∧ f p ≤ p ∧ jCl E p (f p).toNat
theorem zLw_b {n : Nat} {E : Nat → Nat → Prop} {f : Nat → Int} (h : zLw n E f) {p : Nat} (hp : p < n) : 0 ≤ f p ∧ f p ≤ p := ⟨(h p hp).1, (h p hp).2.1⟩
theorem zLw_u {n : Nat} {E : Nat → Nat → Prop} {f g : Nat → Int} {a b : Nat} {v : Int} (h : zLw n E f) (ha : a < n) (hb : b < a) (hj : jCl E a b) (hv : v = min (f a) (f b)) (e : ∀ x, x < n → g x = if x = a ∨ x = b then v else f x) : zLw n E g := fun p hp => by
  have w := h p hp
  have wa := h a ha
  have wb := h b (by omega)
  rw [e p hp]
  by_cases q : p = a ∨ p = b
  · rw [if_pos q]
    have hm : v = f a ∨ v = f b := by omega
    refine ⟨by omega, ?_, ?_⟩
    · rcases q with q | q <;> omega
    · have j1 : jCl E a (f a).toNat := wa.2.2
      have j2 : jCl E b (f b).toNat := wb.2.2
      rcases q with q | q <;> rcases hm with z | z <;> rw [q, z]
      · exact j1
      · exact jCl_t hj j2
      · exact jCl_t (jCl_s hj) j1
      · exact j2
  · rw [if_neg q]
    exact w
theorem zLw_L {n : Nat} {T : Nat → Nat → Prop} {f : Nat → Int} (h : zLw n (cuEa n T) f) (ha : ∀ x y : Nat, x < y → y < n → T x y → f x = f y) : zLb n (cuEa n T) f := by
  have hE : ∀ a b, cuEa n T a b → f a = f b := fun a b q => ha a b q.1 q.2.1 q.2.2
  refine ⟨fun p hp => ?_, hE⟩
  have w := h p hp
  refine ⟨w.1, w.2.1, ?_, w.2.2⟩
  have j := jCl_L hE (fun _ => rfl) w.2.2
  have w2 := h (f p).toNat (by omega)
  omega
theorem zLw_0 {n : Nat} {E : Nat → Nat → Prop} {f : Nat → Int} (h : ∀ p : Nat, p < n → f p = p) : zLw n E f := fun p hp => by
  rw [h p hp, Int.toNat_natCast]
  exact ⟨by omega, Int.le_refl _, jCl_r⟩
theorem cuEa_j {n : Nat} {T : Nat → Nat → Prop} {x y : Nat} (h : x < y) (hy : y < n) (t : T x y) : jCl (cuEa n T) y x := jCl_s (jCl_e ⟨h, hy, t⟩)
