/-! es: what is kept of a board: a net's bytes -/
def gaB (s : BdS) (p k : Nat) : Int := if k = 0 then bP s p 0 else if k = 1 then bP s p 1 else if k = 2 then (((bP s p 2).toNat / bW s / bH s : Nat) : Int) else cuPp s (bP s p 2).toNat
def gaN (s : BdS) (n : Int) (p : Nat) : Nat := 4 * bcn (bP s) n p
def gaF (s : BdS) (n : Int) : Nat → Nat → Int
  | 0, _ => 0
  | p + 1, i => if bP s p 3 = n ∧ gaN s n p ≤ i then gaB s p (i - gaN s n p) else gaF s n p i
def zGa (s : BdS) (n : Int) (p c : Nat) (I : ZI) : Prop := ∀ i : Nat, i < gaN s n p → I c i = gaF s n p i
theorem zGa_fr {s : BdS} {n : Int} {p c : Nat} {I I' : ZI} (h : zGa s n p c I) (hf : ∀ x j, x = c → I' x j = I x j) : zGa s n p c I' := fun i hi => (hf c i rfl).trans (h i hi)
theorem gaN_0 (s : BdS) (n : Int) : gaN s n 0 = 0 := rfl
theorem gaN_y {s : BdS} {n : Int} {p : Nat} (h : bP s p 3 = n) : gaN s n (p + 1) = gaN s n p + 4 := by
  unfold gaN
  show 4 * (bcn (bP s) n p + if bP s p 3 = n then 1 else 0) = _
  rw [if_pos h]
  omega
theorem gaN_n {s : BdS} {n : Int} {p : Nat} (h : ¬ bP s p 3 = n) : gaN s n (p + 1) = gaN s n p := by
  unfold gaN
  show 4 * (bcn (bP s) n p + if bP s p 3 = n then 1 else 0) = _
  rw [if_neg h]
  omega
theorem zGa_0 {s : BdS} {n : Int} {c : Nat} {I : ZI} : zGa s n 0 c I := fun i hi => absurd hi (Nat.not_lt_zero i)
theorem zGa_n {s : BdS} {n : Int} {p c : Nat} {I : ZI} (h : zGa s n p c I) (hn : ¬ bP s p 3 = n) : zGa s n (p + 1) c I := fun i hi => by
  rw [gaN_n hn] at hi
  refine (h i hi).trans ?_
  show _ = if bP s p 3 = n ∧ gaN s n p ≤ i then gaB s p (i - gaN s n p) else gaF s n p i
  rw [if_neg (fun q => hn q.1)]
theorem zGa_y {s : BdS} {n : Int} {p c : Nat} {I I' : ZI} (h : zGa s n p c I) (hn : bP s p 3 = n) (hf : ∀ i : Nat, i < gaN s n p → I' c i = I c i) (h0 : I' c (gaN s n p) = bP s p 0) (h1 : I' c (gaN s n p + 1) = bP s p 1) (h2 : I' c (gaN s n p + 2) = (((bP s p 2).toNat / bW s / bH s : Nat) : Int)) (h3 : I' c (gaN s n p + 3) = cuPp s (bP s p 2).toNat) : zGa s n (p + 1) c I' := fun i hi => by
  rw [gaN_y hn] at hi
  show _ = if bP s p 3 = n ∧ gaN s n p ≤ i then gaB s p (i - gaN s n p) else gaF s n p i
  by_cases e : i < gaN s n p
  · rw [if_neg (by omega)]
    exact (hf i e).trans (h i e)
  · rw [if_pos ⟨hn, by omega⟩]
    obtain ⟨x, hx⟩ : ∃ x, i = gaN s n p + x := ⟨i - gaN s n p, by omega⟩
    subst hx
    rw [Nat.add_sub_cancel_left]
    have hx4 : x < 4 := by omega
    have hc : x = 0 ∨ x = 1 ∨ x = 2 ∨ x = 3 := by omega
    rcases hc with rfl | rfl | rfl | rfl
    · exact h0
    · exact h1
    · exact h2
    · exact h3
theorem gaN_le {s : BdS} {n p : Nat} (hg : bGd s) (hn : n < bnn s) (hp : p ≤ bnp s) : gaN s n p ≤ 20 := by
  have h1 := (hg.2.2.2.2.1 n hn).2.1
  have h2 := bcn_mono (P := bP s) (n := (n : Int)) hp
  unfold gaN
  omega
theorem gaN_lt {s : BdS} {n p : Nat} (hg : bGd s) (hn : n < bnn s) (hp : p < bnp s) (h : bP s p 3 = n) : gaN s n p + 4 ≤ 20 := by
  have h1 := gaN_le hg hn (p := p + 1) (by omega)
  rw [gaN_y h] at h1
  omega
/-- a place told by layer, column, row -/
theorem cxI_d {W H D c : Nat} {l i j : Int} (h : cxI W H D l i j = (c : Int)) : (0 ≤ l ∧ l < D) ∧ (0 ≤ i ∧ i < W) ∧ (0 ≤ j ∧ j < H) ∧ ((c / W / H : Nat) : Int) = l ∧ ((c / W % H : Nat) : Int) = j ∧ ((c % W : Nat) : Int) = i := by
  unfold cxI at h
  by_cases e : 0 ≤ l ∧ l < D ∧ 0 ≤ i ∧ i < W ∧ 0 ≤ j ∧ j < H
  · rw [if_pos e] at h
    obtain ⟨e1, e2, e3, e4, e5, e6⟩ := e
    obtain ⟨l', rfl⟩ := Int.eq_ofNat_of_zero_le e1
    obtain ⟨i', rfl⟩ := Int.eq_ofNat_of_zero_le e3
    obtain ⟨j', rfl⟩ := Int.eq_ofNat_of_zero_le e5
    have hi : i' < W := by omega
    have hj : j' < H := by omega
    have hc : c = (l' * H + j') * W + i' := by
      have z : (((l' * H + j') * W + i' : Nat) : Int) = c := h
      omega
    have d1 : c / W = l' * H + j' := by
      rw [hc, Nat.mul_comm, Nat.mul_add_div (by omega), Nat.div_eq_of_lt hi, Nat.add_zero]
    have d2 : c % W = i' := by
      rw [hc, Nat.mul_comm, Nat.mul_add_mod, Nat.mod_eq_of_lt hi]
    have d3 : c / W / H = l' := by
      rw [d1, Nat.mul_comm, Nat.mul_add_div (by omega), Nat.div_eq_of_lt hj, Nat.add_zero]
    have d4 : c / W % H = j' := by
      rw [d1, Nat.mul_comm, Nat.mul_add_mod, Nat.mod_eq_of_lt hj]
    rw [d3, d4, d2]
    exact ⟨⟨e1, e2⟩, ⟨e3, e4⟩, ⟨e5, e6⟩, rfl, rfl, rfl⟩
  · rw [if_neg e] at h
    omega
/-- what the reference keeps of a pad: its bytes -/
theorem gaB_m {s : BdS} {p : Nat} {l i j : Int} (hg : bGd s) (hp : p < bnp s) (h : cxI (bW s) (bH s) (bD s) l i j = bP s p 2) : ((0 ≤ l ∧ l < bD s) ∧ (0 ≤ i ∧ i < bW s) ∧ (0 ≤ j ∧ j < bH s)) ∧ (((bP s p 2).toNat / bW s / bH s : Nat) : Int) = l ∧ cuPp s (bP s p 2).toNat = 16 * j + i := by
  have w := (hg.2.2.2.1 p hp).2.2.1.1
  have e : ((bP s p 2).toNat : Int) = bP s p 2 := Int.toNat_of_nonneg w
  have z := cxI_d (h.trans e.symm)
  refine ⟨⟨z.1, z.2.1, z.2.2.1⟩, z.2.2.2.1, ?_⟩
  unfold cuPp
  rw [z.2.2.2.2.1, z.2.2.2.2.2]
theorem gaF_b {s : BdS} (hg : bGd s) {n : Int} : ∀ {p i : Nat}, p ≤ bnp s → 0 ≤ gaF s n p i ∧ gaF s n p i ≤ 255
  | 0, i, _ => ⟨Int.le_refl 0, by show (0 : Int) ≤ 255; decide⟩
  | p + 1, i, hp => by
    show 0 ≤ (if bP s p 3 = n ∧ gaN s n p ≤ i then gaB s p (i - gaN s n p) else gaF s n p i) ∧ (if bP s p 3 = n ∧ gaN s n p ≤ i then gaB s p (i - gaN s n p) else gaF s n p i) ≤ 255
    by_cases e : bP s p 3 = n ∧ gaN s n p ≤ i
    · rw [if_pos e]
      have w := hg.2.2.2.1 p (by omega)
      have hb := hg.1
      have hc : (bP s p 2).toNat < bW s * bH s * bD s := by omega
      have hd : (bP s p 2).toNat / bW s / bH s < bD s := by
        rw [Nat.div_div_eq_div_mul]
        exact Nat.div_lt_of_lt_mul hc
      have hm1 : (bP s p 2).toNat / bW s % bH s < bH s := Nat.mod_lt _ (by omega)
      have hm2 : (bP s p 2).toNat % bW s < bW s := Nat.mod_lt _ (by omega)
      have hd0 := Int.natCast_nonneg ((bP s p 2).toNat / bW s / bH s)
      unfold gaB cuPp
      split
      · omega
      · split
        · omega
        · split <;> omega
    · rw [if_neg e]
      exact gaF_b hg (by omega)
