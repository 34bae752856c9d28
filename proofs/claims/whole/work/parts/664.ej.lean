/-! CUTS, the reference: a drill text read line by line -/
def zRh (k : Nat) (l : Int) (r : Nat) (x y : Int) (I L : ZI) : Prop := (I (k + 5) r = 0 ∧ I (k + 10) r = l ∧ I (k + 11) r = l + 1 ∧ I (k + 12) r = 0) ∧ (L (k + 6) r = x ∧ L (k + 7) r = y) ∧ L (k + 8) r = x ∧ L (k + 9) r = y
theorem zRh_fr {k r : Nat} {l x y : Int} {I I' L L' : ZI} (h : zRh k l r x y I L) (hf : ∀ c : Nat, c = k + 5 ∨ (k + 10 ≤ c ∧ c ≤ k + 12) → I' c r = I c r) (hl : ∀ c : Nat, k + 6 ≤ c ∧ c ≤ k + 9 → L' c r = L c r) : zRh k l r x y I' L' := by
  obtain ⟨⟨a1, a2, a3, a4⟩, ⟨b1, b2⟩, b3, b4⟩ := h
  exact ⟨⟨(hf _ (by omega)).trans a1, (hf _ (by omega)).trans a2, (hf _ (by omega)).trans a3, (hf _ (by omega)).trans a4⟩, ⟨(hl _ (by omega)).trans b1, (hl _ (by omega)).trans b2⟩, (hl _ (by omega)).trans b3, (hl _ (by omega)).trans b4⟩
def dBs (l : Int) : Nat := 5 + (dNu l).length + 1 + (dNu (l + 1)).length
noncomputable def dPl (w : List CuR) (l : Int) (s n : Nat) : Nat := match s with
  | 0 => 0
  | 1 => 4
  | 2 => dBs l + 1
  | 3 => dBs l + 9
  | 4 => dBs l + 11
  | 5 => dPs w l n
  | _ => (dTx w l).length
def dSg (s : Nat) : Int := match s with
  | 0 => 0
  | 1 => 1
  | 2 => 1
  | 3 => 1
  | 4 => 2
  | 5 => 2
  | _ => 3
def zDL (k : Nat) (w : List CuR) (l : Int) (s n : Nat) (I L : ZI) : Prop := ((I k 23 = -1 ∧ zTd k (dTx w l) I) ∧ (s ≤ 6 ∧ n ≤ cuHc w) ∧ (s < 5 → n = 0) ∧ (s = 6 → n = cuHc w)) ∧ (I k 21 = (dPl w l s n : Nat) ∧ I k 34 = dSg s) ∧ ((2 ≤ s → I k 35 = 1 ∧ I k 36 = l ∧ I k 37 = l + 1) ∧ (s = 5 → I k 38 = 0)) ∧ (I (k + 1) 1 = (if s ≤ 2 then 0 else 1) ∧ (3 ≤ s → L (k + 2) 10 = 300 ∧ I (k + 3) 10 = 1)) ∧ I (k + 4) 1 = (zct (dIs w l) n : Nat) ∧ ∀ j, j < n → dIs w l j → zRh k l (60 + zct (dIs w l) j) (dHx w j) (dHy w j) I L
theorem dAt_j {t x : List Int} {p j : Nat} {u : Int} (h : dAt t p x) {y : List Int} (e : x = y) (hj : j < y.length) (hu : wAt y j = u) : p + j < t.length ∧ wAt t (p + j) = u := by
  subst e
  exact ⟨(h j hj).1, (h j hj).2.trans hu⟩
theorem dAt_s {t a x b : List Int} {p : Nat} (h : dAt t p (a ++ x ++ b)) : dAt t (p + a.length) x := fun j hj => by
  have z := h (a.length + j) (by rw [List.length_append, List.length_append]; omega)
  rw [wAt_l2 (by rw [List.length_append]; omega), wAt_r, ← Nat.add_assoc] at z
  exact z
theorem dNu_0l : (dNu 0).length = 1 ∧ (dNu 300).length = 3 := by decide +kernel
theorem dWd_s : dWd 23 = [10, 84] ++ dNu 0 ++ [67, 51, 48, 48, 80, 10, 37, 10] ∧ dWd 23 = [10, 84, 48, 67] ++ dNu 300 ++ [80, 10, 37, 10] ∧ dWd 24 = [84] ++ dNu 0 ++ [10] := by decide +kernel
theorem dNx (P : Nat → Prop) (n : Nat) : ∀ H, (∀ i, n ≤ i → i < H → ¬ P i) ∨ ∃ j, n ≤ j ∧ j < H ∧ P j ∧ ∀ i, n ≤ i → i < j → ¬ P i
  | 0 => Or.inl fun i _ h => absurd h (Nat.not_lt_zero i)
  | H + 1 => by
    rcases dNx P n H with h | ⟨j, h1, h2, h3, h4⟩
    · by_cases q : n ≤ H ∧ P H
      · exact Or.inr ⟨H, q.1, Nat.lt_succ_self H, q.2, h⟩
      · refine Or.inl fun i h1 h2 h3 => ?_
        by_cases e : i = H
        · subst e; exact q ⟨h1, h3⟩
        · exact h i h1 (by omega) h3
    · exact Or.inr ⟨j, h1, by omega, h3, h4⟩
theorem dPs_k {w : List CuR} {l : Int} {n : Nat} : ∀ {j : Nat}, n ≤ j → (∀ i, n ≤ i → i < j → ¬ dIs w l i) → dPs w l j = dPs w l n
  | 0, h, _ => by rw [show n = 0 by omega]
  | j + 1, h, g => by
    by_cases e : n = j + 1
    · rw [e]
    · rw [dPs_s, dHl_n (g j (by omega) (by omega)), dPs_k (by omega) (fun i h1 h2 => g i h1 (by omega))]
      rfl
theorem dPs_m {w : List CuR} {l : Int} {n : Nat} : ∀ {j : Nat}, n ≤ j → dPs w l n ≤ dPs w l j
  | 0, h => by rw [show n = 0 by omega]; exact Nat.le_refl _
  | j + 1, h => by
    by_cases e : n = j + 1
    · rw [e]; exact Nat.le_refl _
    · rw [dPs_s]
      exact Nat.le_trans (dPs_m (by omega)) (Nat.le_add_right _ _)
theorem dPl_lt {w : List CuR} {l : Int} {s n : Nat} (hs : s ≤ 5) (hn : n ≤ cuHc w) : dPl w l s n < (dTx w l).length := by
  obtain ⟨⟨a1, a2, a3, a4, a5⟩, a6⟩ := dTx_h (w := w) (l := l)
  have e := dTx_e (w := w) (l := l)
  have m := dPs_m (w := w) (l := l) hn
  have m0 := dPs_m (w := w) (l := l) (Nat.zero_le (cuHc w))
  have e0 : dPs w l 0 = (dHd w l).length := rfl
  have hb : dBs l = 5 + (dNu l).length + 1 + (dNu (l + 1)).length := rfl
  match s, hs with
  | 0, _ => show 0 < _; omega
  | 1, _ => show 4 < _; omega
  | 2, _ => show dBs l + 1 < _; omega
  | 3, _ => show dBs l + 9 < _; omega
  | 4, _ => show dBs l + 11 < _; omega
  | 5, _ => show dPs w l n < _; omega
theorem dHx_b {w : List CuR} {n : Nat} : (0 ≤ dHx w n ∧ dHx w n ≤ 15000) ∧ 0 ≤ dHy w n ∧ dHy w n ≤ 15000 := by
  unfold dHx dHy
  omega
theorem zor_e {a b : Int} (e : a = b) (h : b = 0 ∨ b = 1) : a = 0 ∨ a = 1 := e ▸ h
