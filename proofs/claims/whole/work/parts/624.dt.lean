/-! CUTS, the reference: holes to be drilled -/
noncomputable def cuHX (w : List CuR) (p : Nat) : Int := 1000 * (cuHv w p % 16)
noncomputable def cuHY (w : List CuR) (p : Nat) : Int := 1000 * (cuHv w p / 16 % 16)
def zHi (k : Nat) (w : List CuR) (p : Nat) (I L : ZI) : Prop := (I (k + 5) p = 0 ∧ I (k + 10) p = cuHv w p / 256 ∧ I (k + 11) p = cuHv w p / 256 + 1) ∧ (L (k + 6) p = cuHX w p ∧ L (k + 7) p = cuHY w p) ∧ L (k + 8) p = cuHX w p ∧ L (k + 9) p = cuHY w p
def zDh (k : Nat) (w : List CuR) (I L : ZI) : Prop := (I (k + 4) 0 = cuHc w ∧ I (k + 1) 0 = 1) ∧ ∀ p : Nat, p < cuHc w → zHi k w p I L
theorem zDh_fr {k : Nat} {w : List CuR} {I I' L L' : ZI} (h : zDh k w I L) (hf : ∀ c j : Nat, (c = k + 4 ∧ j = 0) ∨ (c = k + 1 ∧ j = 0) ∨ c = k + 5 ∨ c = k + 10 ∨ c = k + 11 → I' c j = I c j) (hl : ∀ c j : Nat, k + 6 ≤ c ∧ c ≤ k + 9 → L' c j = L c j) : zDh k w I' L' :=
  ⟨⟨(hf _ _ (by omega)).trans h.1.1, (hf _ _ (by omega)).trans h.1.2⟩, fun p hp => by
    obtain ⟨⟨h1, h2, h3⟩, ⟨h4, h5⟩, h6, h7⟩ := h.2 p hp
    exact ⟨⟨(hf _ _ (by omega)).trans h1, (hf _ _ (by omega)).trans h2, (hf _ _ (by omega)).trans h3⟩, ⟨(hl _ _ (by omega)).trans h4, (hl _ _ (by omega)).trans h5⟩, (hl _ _ (by omega)).trans h6, (hl _ _ (by omega)).trans h7⟩⟩
theorem cuHX_b {w : List CuR} {p : Nat} : (0 ≤ cuHX w p ∧ cuHX w p ≤ 15000) ∧ 0 ≤ cuHY w p ∧ cuHY w p ≤ 15000 := by
  unfold cuHX cuHY
  omega
theorem cuAs_n {d : Int} : cuAs (0 - d) = cuAs d := by
  unfold cuAs
  split <;> split <;> omega
theorem cuAs_m {a b : Int} : cuAs (a - b) = cuAs (b - a) := by
  unfold cuAs
  split <;> split <;> omega
theorem cuWy_m {w : List CuR} {b : Nat} : cuWy w (-1) b = max (cuAs (0 - cuHX w b)) (cuAs (0 - cuHY w b)) := by
  unfold cuWy
  rw [if_pos rfl, cuAs_n, cuAs_n]
  rfl
theorem cuWy_p {w : List CuR} {a b : Nat} : cuWy w (a : Int) b = max (cuAs (cuHX w a - cuHX w b)) (cuAs (cuHY w a - cuHY w b)) := by
  unfold cuWy
  rw [if_neg (by omega), Int.toNat_natCast, cuAs_m (a := cuHX w a), cuAs_m (a := cuHY w a)]
  rfl
/-- one hole more -/
theorem cuHc_1 {w : List CuR} {r : CuR} : (r 0 ≠ 3 → cuHc (w ++ [r]) = cuHc w) ∧ (r 0 = 3 → cuHc (w ++ [r]) = cuHc w + 1) := by
  have e : zct (cuHn (w ++ [r])) w.length = zct (cuHn w) w.length := zct_on (fun i hi => by unfold cuHn; rw [cg_l hi])
  have en : cg (w ++ [r]) w.length 0 = r 0 := cg_e
  constructor
  · intro h
    unfold cuHc
    rw [cLn, zct_f (show ¬ cuHn (w ++ [r]) w.length by unfold cuHn; rw [en]; exact h), e]
  · intro h
    unfold cuHc
    rw [cLn, zct_t (show cuHn (w ++ [r]) w.length by unfold cuHn; rw [en]; exact h), e]
theorem cuHv_a {w : List CuR} {r : CuR} {p : Nat} (h : p < cuHc w) : cuHv (w ++ [r]) p = cuHv w p := by
  obtain ⟨h1, h2, h3⟩ := cuHx_b h
  have e : zct (cuHn (w ++ [r])) (cuHx w p) = zct (cuHn w) (cuHx w p) := zct_on (fun i hi => by unfold cuHn; rw [cg_l (by omega)])
  have z := cuHx_at (w := w ++ [r]) (i := cuHx w p) (by rw [cLn]; omega) (by unfold cuHn; rw [cg_l h1]; exact h2)
  rw [e, h3] at z
  unfold cuHv
  rw [z, cg_l h1, cg_l h1]
theorem cuHv_n {w : List CuR} {r : CuR} (h : r 0 = 3) : cuHv (w ++ [r]) (cuHc w) = r 2 * 16 * 16 + r 3 := by
  have e : zct (cuHn (w ++ [r])) w.length = zct (cuHn w) w.length := zct_on (fun i hi => by unfold cuHn; rw [cg_l hi])
  have z := cuHx_at (w := w ++ [r]) (i := w.length) (by rw [cLn]; omega) (by unfold cuHn; rw [cg_e]; exact h)
  rw [e] at z
  unfold cuHv
  rw [show cuHc w = zct (cuHn w) w.length from rfl, z, cg_e, cg_e]
theorem zHi_a {k p : Nat} {w : List CuR} {r : CuR} {I L : ZI} (hp : p < cuHc w) (h : zHi k w p I L) : zHi k (w ++ [r]) p I L := by
  unfold zHi cuHX cuHY at h ⊢
  rw [cuHv_a hp]
  exact h
theorem zDh_n {k : Nat} {w : List CuR} {r : CuR} {I L : ZI} (h : zDh k w I L) (hr : r 0 ≠ 3) : zDh k (w ++ [r]) I L := by
  have e := (cuHc_1 (w := w) (r := r)).1 hr
  exact ⟨by rw [e]; exact h.1, fun p hp => zHi_a (by omega) (h.2 p (by omega))⟩
/-- rows of least travel -/
def zUl (k : Nat) (w : List CuR) (D : Nat) (L : ZI) : Prop := ∀ d l : Nat, D < d → d < 2 ^ cuHc w → l < cuHc w → cuBt d l → L (k + 15) (8 * d + l) = cuTt w (cuHc w) d l
/-- the best so far -/
noncomputable def cuBs (U : Nat → Prop) (g : Nat → Int) (b0 : Int) (n : Nat) : Int := zite (cuMg U g n = -1) b0 (g (cuMg U g n).toNat)
theorem cuBs_0 {U : Nat → Prop} {g : Nat → Int} {b0 : Int} : cuBs U g b0 0 = b0 := zite_t rfl
theorem cuBs_s {U : Nat → Prop} {g : Nat → Int} {b0 : Int} {n : Nat} (h : U n) : cuBs U g b0 (n + 1) = cuBs U g b0 n := by
  unfold cuBs
  rw [cuMg_n (fun q => q.1 h)]
theorem cuBs_u {U : Nat → Prop} {g : Nat → Int} {b0 : Int} {n : Nat} (h : ¬ U n) (hb : cuBs U g b0 n < 0 ∨ g n < cuBs U g b0 n) (hg : ∀ n, 0 ≤ g n) (h0 : b0 = -1) : cuBs U g b0 (n + 1) = g n := by
  have hq : ¬ U n ∧ (cuMg U g n = -1 ∨ g n < g (cuMg U g n).toNat) := by
    refine ⟨h, ?_⟩
    by_cases e : cuMg U g n = -1
    · exact Or.inl e
    · right
      unfold cuBs at hb
      rw [zite_f e] at hb
      have := hg (cuMg U g n).toNat
      omega
  unfold cuBs
  rw [cuMg_y hq, zite_f (by omega), Int.toNat_natCast]
theorem cuBs_k {U : Nat → Prop} {g : Nat → Int} {b0 : Int} {n : Nat} (hb : ¬ (cuBs U g b0 n < 0 ∨ g n < cuBs U g b0 n)) (h0 : b0 = -1) : cuBs U g b0 (n + 1) = cuBs U g b0 n := by
  by_cases h : U n
  · exact cuBs_s h
  · have e : cuMg U g n ≠ -1 := fun e => by
      apply hb
      left
      unfold cuBs
      rw [zite_t e, h0]
      decide
    have e2 : cuBs U g b0 n = g (cuMg U g n).toNat := zite_f e
    rw [e2] at hb
    have : cuMg U g (n + 1) = cuMg U g n := cuMg_n (fun q => by
      rcases q.2 with z | z
      · exact e z
      · exact hb (Or.inr z))
    unfold cuBs
    rw [this]
theorem cuBs_b {U : Nat → Prop} {g : Nat → Int} {b0 B : Int} {n : Nat} (hg : ∀ n, 0 ≤ g n ∧ g n ≤ B) (h0 : -1 ≤ b0 ∧ b0 ≤ 0) (hB : 0 ≤ B) : -1 ≤ cuBs U g b0 n ∧ cuBs U g b0 n ≤ B := by
  unfold cuBs
  by_cases e : cuMg U g n = -1
  · rw [zite_t e]; omega
  · rw [zite_f e]
    have := hg (cuMg U g n).toNat
    omega
