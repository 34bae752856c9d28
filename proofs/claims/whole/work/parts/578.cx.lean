/-! CUTS: copper pieces, what they join -/
def cuPn (w : List CuR) (i : Nat) : Prop := cg w i 0 ≠ 2
noncomputable def cuNp (w : List CuR) : Nat := zct (cuPn w) w.length
noncomputable def cuPx (w : List CuR) (p : Nat) : Nat := (zkth (cuPn w) w.length p).toNat
theorem cuPx_at {w : List CuR} {i : Nat} (hi : i < w.length) (h : cuPn w i) : cuPx w (zct (cuPn w) i) = i := by
  unfold cuPx
  rw [zkth_at hi h rfl]
  rfl
theorem zct_lt2 {P : Nat → Prop} {i n : Nat} (hi : i < n) (h : P i) : zct P i < zct P n := by
  have w := zct_le2 (P := P) (show i + 1 ≤ n by omega)
  rw [zct_t h] at w
  omega
theorem zct_sj {P : Nat → Prop} : ∀ {n p : Nat}, p < zct P n → ∃ i, i < n ∧ P i ∧ zct P i = p
  | 0, p, h => absurd h (Nat.not_lt_zero p)
  | n + 1, p, h => by
    by_cases e : P n
    · rw [zct_t e] at h
      by_cases q : p = zct P n
      · exact ⟨n, Nat.lt_succ_self n, e, q.symm⟩
      · obtain ⟨i, h1, h2, h3⟩ := zct_sj (P := P) (n := n) (p := p) (by omega)
        exact ⟨i, by omega, h2, h3⟩
    · rw [zct_f e] at h
      obtain ⟨i, h1, h2, h3⟩ := zct_sj (n := n) (p := p) h
      exact ⟨i, by omega, h2, h3⟩
theorem cuPx_b {w : List CuR} {p : Nat} (h : p < cuNp w) : cuPx w p < w.length ∧ cuPn w (cuPx w p) ∧ zct (cuPn w) (cuPx w p) = p := by
  obtain ⟨i, h1, h2, h3⟩ := zct_sj h
  have e := cuPx_at h1 h2
  rw [h3] at e
  rw [e]
  exact ⟨h1, h2, h3⟩
/-- labels: each piece knows a lower one that it is joined to -/
def cuEd (n : Nat) (T : Nat → Nat → Prop) (a b : Nat) (x y : Nat) : Prop := x < y ∧ y < n ∧ T x y ∧ (x < a ∨ (x = a ∧ y < b))
def cuEa (n : Nat) (T : Nat → Nat → Prop) (x y : Nat) : Prop := x < y ∧ y < n ∧ T x y
def zLb (n : Nat) (E : Nat → Nat → Prop) (L : Nat → Int) : Prop := (∀ p, p < n → 0 ≤ L p ∧ L p ≤ p ∧ L (L p).toNat = L p ∧ jCl E p (L p).toNat) ∧ ∀ a b, E a b → L a = L b
theorem zLb_e {n : Nat} {E F : Nat → Nat → Prop} {L : Nat → Int} (h : zLb n E L) (e : ∀ x y, E x y ↔ F x y) : zLb n F L := ⟨fun p hp => by
    have w := h.1 p hp
    exact ⟨w.1, w.2.1, w.2.2.1, jCl_m (fun x y q => jCl_e ((e x y).mp q)) w.2.2.2⟩, fun a b q => h.2 a b ((e a b).mpr q)⟩
theorem zLb_c {n : Nat} {E : Nat → Nat → Prop} {L L' : Nat → Int} (h : zLb n E L) (hE : ∀ x y, E x y → x < n ∧ y < n) (e : ∀ p, p < n → L' p = L p) : zLb n E L' := ⟨fun p hp => by
    have w := h.1 p hp
    rw [e p hp, e (L p).toNat (by omega)]
    exact w, fun a b q => by
    have w := hE a b q
    rw [e a w.1, e b w.2]
    exact h.2 a b q⟩
theorem zLb_0 {n : Nat} {E : Nat → Nat → Prop} {L : Nat → Int} (hE : ∀ x y, ¬ E x y) (h : ∀ p, p < n → L p = p) : zLb n E L := ⟨fun p hp => by
    rw [h p hp, Int.toNat_natCast]
    exact ⟨by omega, Int.le_refl _, h p hp, jCl_r⟩, fun a b q => absurd q (hE a b)⟩
/-- a pair more that has one label already; that has two -/
theorem zLb_s {n a b : Nat} {E : Nat → Nat → Prop} {L : Nat → Int} (h : zLb n E L) (e : L a = L b) : zLb n (jAd E a b) L := ⟨fun p hp => by
    have w := h.1 p hp
    exact ⟨w.1, w.2.1, w.2.2.1, jAd_l w.2.2.2⟩, fun x y q => by
    rcases q with q | ⟨rfl, rfl⟩
    · exact h.2 x y q
    · exact e⟩
theorem zLb_j {n a b : Nat} {E : Nat → Nat → Prop} {L L' : Nat → Int} (h : zLb n E L) (hE : ∀ x y, E x y → x < n ∧ y < n) (ha : a < n) (hb : b < n) (e : ∀ p, p < n → L' p = if L p = L a ∨ L p = L b then min (L a) (L b) else L p) : zLb n (jAd E a b) L' := by
  have wa := h.1 a ha
  have wb := h.1 b hb
  have hab : jCl (jAd E a b) (L a).toNat (L b).toNat := jCl_t (jCl_s (jAd_l wa.2.2.2)) (jCl_t jAd_r (jAd_l wb.2.2.2))
  refine ⟨fun p hp => ?_, fun x y q => ?_⟩
  · have w := h.1 p hp
    rw [e p hp]
    by_cases q : L p = L a ∨ L p = L b
    · rw [if_pos q]
      have hm : min (L a) (L b) = L a ∨ min (L a) (L b) = L b := by omega
      refine ⟨by omega, by omega, ?_, ?_⟩
      · rw [e _ (by omega)]
        have h2 : L (min (L a) (L b)).toNat = min (L a) (L b) := by
          rcases hm with z | z
          · rw [z]; exact wa.2.2.1
          · rw [z]; exact wb.2.2.1
        rw [h2, if_pos hm]
      · have hp2 : jCl (jAd E a b) p (L p).toNat := jAd_l w.2.2.2
        rcases q with q | q
        · rw [q] at hp2
          rcases hm with z | z
          · rw [z]; exact hp2
          · rw [z]; exact jCl_t hp2 hab
        · rw [q] at hp2
          rcases hm with z | z
          · rw [z]; exact jCl_t hp2 (jCl_s hab)
          · rw [z]; exact hp2
    · rw [if_neg q]
      refine ⟨w.1, w.2.1, ?_, jAd_l w.2.2.2⟩
      rw [e _ (by omega), w.2.2.1, if_neg q]
  · rcases q with q | ⟨rfl, rfl⟩
    · have hb2 := hE x y q
      rw [e x hb2.1, e y hb2.2, h.2 x y q]
    · rw [e x ha, e y hb, if_pos (Or.inl rfl), if_pos (Or.inr rfl)]
/-- the label is the least piece that it is joined to -/
theorem jCl_L {E : Nat → Nat → Prop} {L : Nat → Int} {x y : Nat} (h : ∀ a b, E a b → L a = L b) (h0 : ∀ a, (L a).toNat = (L a).toNat) (g : jCl E x y) : (L x).toNat = (L y).toNat := g (fun a => (L a).toNat) (fun a b q => by rw [h a b q])
noncomputable def cuRo (E : Nat → Nat → Prop) (p : Nat) : Nat := (zlow (fun q => jCl E q p) (p + 1)).toNat
theorem cuRo_at {E : Nat → Nat → Prop} {p r : Nat} (hr : r ≤ p) (h : jCl E r p) (hl : ∀ q, q < r → ¬ jCl E q p) : cuRo E p = r := by
  unfold cuRo
  rw [zlow_at (P := fun q => jCl E q p) h hl (by omega)]
  rfl
theorem zLb_r {n : Nat} {E : Nat → Nat → Prop} {L : Nat → Int} (h : zLb n E L) {p : Nat} (hp : p < n) : L p = cuRo E p := by
  have w := h.1 p hp
  have e := cuRo_at (E := E) (p := p) (r := (L p).toNat) (by omega) (jCl_s w.2.2.2) (fun q hq hj => by
    have z := jCl_L h.2 (fun _ => rfl) hj
    have w2 := h.1 q (by omega)
    omega)
  omega
/-- a root: none below is joined to it; numbers of the roots -/
def cuIr (E : Nat → Nat → Prop) (q : Nat) : Prop := cuRo E q = q
noncomputable def cuNo (E : Nat → Nat → Prop) (p : Nat) : Nat := zct (cuIr E) (cuRo E p)
theorem cuNo_b {E : Nat → Nat → Prop} {p : Nat} : cuNo E p ≤ p := by
  have w := zct_le (cuIr E) (cuRo E p)
  have w2 : cuRo E p ≤ p := by
    unfold cuRo
    rcases zlow_sp (fun q => jCl E q p) (p + 1) with ⟨h, _⟩ | ⟨r, h1, h2, _⟩
    · rw [h]; exact Nat.zero_le _
    · rw [h2]; show r ≤ p; omega
  exact Nat.le_trans w w2
/-- pieces of a list of shapes -/
def cuTT (w : List CuR) (a b : Nat) : Prop := cuTo w (cuPx w a) (cuPx w b)
noncomputable def cuEE (w : List CuR) : Nat → Nat → Prop := cuEa (cuNp w) (cuTT w)
noncomputable def cuNm (w : List CuR) (p : Nat) : Nat := cuNo (cuEE w) p
theorem cuEd_b {n a b x y : Nat} {T : Nat → Nat → Prop} (h : cuEd n T a b x y) : x < n ∧ y < n := ⟨by have := h.1; have := h.2.1; omega, h.2.1⟩
theorem cuEd_j {n a b : Nat} {T : Nat → Nat → Prop} (hab : a < b) (hb : b < n) (h : T a b) (x y : Nat) : jAd (cuEd n T a b) a b x y ↔ cuEd n T a (b + 1) x y := by
  constructor
  · rintro (⟨h1, h2, h3, h4⟩ | ⟨rfl, rfl⟩)
    · exact ⟨h1, h2, h3, by omega⟩
    · exact ⟨hab, hb, h, by omega⟩
  · rintro ⟨h1, h2, h3, h4⟩
    by_cases e : x = a ∧ y = b
    · exact Or.inr e
    · exact Or.inl ⟨h1, h2, h3, by omega⟩
theorem cuEd_n {n a b : Nat} {T : Nat → Nat → Prop} (h : ¬ T a b) (x y : Nat) : cuEd n T a b x y ↔ cuEd n T a (b + 1) x y := by
  constructor
  · rintro ⟨h1, h2, h3, h4⟩
    exact ⟨h1, h2, h3, by omega⟩
  · rintro ⟨h1, h2, h3, h4⟩
    by_cases e : x = a ∧ y = b
    · obtain ⟨rfl, rfl⟩ := e
      exact absurd h3 h
    · exact ⟨h1, h2, h3, by omega⟩
theorem cuEd_i {n a b : Nat} {T : Nat → Nat → Prop} (h : n ≤ b) (x y : Nat) : cuEd n T a b x y ↔ cuEd n T (a + 1) (a + 1 + 1) x y := by
  constructor
  · rintro ⟨h1, h2, h3, h4⟩
    exact ⟨h1, h2, h3, by omega⟩
  · rintro ⟨h1, h2, h3, h4⟩
    exact ⟨h1, h2, h3, by omega⟩
theorem cuEd_e {n a b : Nat} {T : Nat → Nat → Prop} (h : n ≤ a) (x y : Nat) : cuEd n T a b x y ↔ cuEa n T x y := by
  constructor
  · rintro ⟨h1, h2, h3, h4⟩
    exact ⟨h1, h2, h3⟩
  · rintro ⟨h1, h2, h3⟩
    exact ⟨h1, h2, h3, by omega⟩
theorem cuEd_0 {n : Nat} {T : Nat → Nat → Prop} (x y : Nat) : ¬ cuEd n T 0 1 x y := by
  rintro ⟨h1, h2, h3, h4⟩
  omega
def cuDc (c wh : Int) : Int := if wh = 0 then c / 61 / 60 % 5 else if wh = 1 then c / 61 % 60 else if wh = 2 then c % 61 - 1 else -1
theorem zLb_k {n a b : Nat} {T : Nat → Nat → Prop} {L : Nat → Int} (h : zLb n (cuEd n T a b) L) (hab : a < b) (hb : b < n) (e : L a = L b ∨ ¬ T a b) : zLb n (cuEd n T a (b + 1)) L := by
  by_cases q : T a b
  · rcases e with e | e
    · exact zLb_e (zLb_s h e) (cuEd_j hab hb q)
    · exact absurd q e
  · exact zLb_e h (cuEd_n q)
theorem zLb_m {n a b : Nat} {T : Nat → Nat → Prop} {L L' : Nat → Int} (h : zLb n (cuEd n T a b) L) (hab : a < b) (hb : b < n) (q : T a b) (e : ∀ p, p < n → L' p = if L p = L a ∨ L p = L b then min (L a) (L b) else L p) : zLb n (cuEd n T a (b + 1)) L' := zLb_e (zLb_j h (fun _ _ => cuEd_b) (by omega) hb e) (cuEd_j hab hb q)
/-- the copper of the class's cut -/
def zUp (k : Nat) (w : List CuR) (I : ZI) : Prop := I k 6 = cuNp w ∧ (∀ p : Nat, p < cuNp w → I (k + 3) p = cuPx w p) ∧ ∀ p : Nat, p < cuNp w → I (k + 4) p = cuNm w p
theorem zUp_fr {k : Nat} {w : List CuR} {I I' : ZI} (h : zUp k w I) (hf : ∀ c j : Nat, (c = k ∧ j = 6) ∨ c = k + 3 ∨ c = k + 4 → I' c j = I c j) : zUp k w I' := ⟨(hf k 6 (by omega)).trans h.1, fun p hp => (hf _ _ (by omega)).trans (h.2.1 p hp), fun p hp => (hf _ _ (by omega)).trans (h.2.2 p hp)⟩
