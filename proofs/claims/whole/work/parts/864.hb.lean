
/-- what a row of asked things comes to, from a first value -/
def adN (f : Nat → Int) (e : Int) : Nat → Int
  | 0 => e
  | n + 1 => if adN f e n = 1 ∧ f n = 1 then 1 else 0
theorem adN_b {f : Nat → Int} {e : Int} (h : e = 0 ∨ e = 1) (n : Nat) : adN f e n = 0 ∨ adN f e n = 1 := by
  cases n with
  | zero => exact h
  | succ n =>
    unfold adN
    by_cases q : adN f e n = 1 ∧ f n = 1
    · rw [if_pos q]; exact Or.inr rfl
    · rw [if_neg q]; exact Or.inl rfl
theorem adN_z {f : Nat → Int} {e : Int} {i n : Nat} (h : adN f e i = 0) (hn : i ≤ n) : adN f e n = 0 := by
  induction n with
  | zero => have q : i = 0 := by omega
            rw [q] at h; exact h
  | succ n ih =>
    by_cases q : i = n + 1
    · rw [q] at h; exact h
    · have z := ih (by omega)
      unfold adN
      rw [if_neg (by intro y; omega)]
theorem adN_1 {f : Nat → Int} {e : Int} {n : Nat} (h : adN f e n = 1) (h2 : f n = 1) : adN f e (n + 1) = 1 := if_pos ⟨h, h2⟩
theorem adN_0 {f : Nat → Int} {e : Int} {n : Nat} (h2 : ¬ f n = 1) : adN f e (n + 1) = 0 := if_neg (fun y => h2 y.2)
/-- beyond the row nothing changes -/
def adM (f : Nat → Int) (e : Int) (nd i : Nat) : Int := adN f e (min i nd)
theorem adM_b {f : Nat → Int} {e : Int} {nd i : Nat} (h : e = 0 ∨ e = 1) : adM f e nd i = 0 ∨ adM f e nd i = 1 := adN_b h _
theorem adM_in {f : Nat → Int} {e : Int} {nd i : Nat} (hi : i < nd) : adM f e nd (i + 1) = if adM f e nd i = 1 ∧ f i = 1 then 1 else 0 := by
  unfold adM
  have e1 : min (i + 1) nd = min i nd + 1 := by omega
  have e2 : min i nd = i := by omega
  rw [e1, e2]
  rfl
theorem adM_ou {f : Nat → Int} {e : Int} {nd i : Nat} (hi : nd ≤ i) : adM f e nd (i + 1) = adM f e nd i := by
  unfold adM
  have e1 : min (i + 1) nd = min i nd := by omega
  rw [e1]
theorem adM_e {f : Nat → Int} {e : Int} {nd i : Nat} (hi : nd ≤ i) : adM f e nd i = adN f e nd := by
  unfold adM
  have e1 : min i nd = nd := by omega
  rw [e1]
theorem adN_e0 {f : Nat → Int} (n : Nat) : adN f 0 n = 0 := adN_z (i := 0) rfl (Nat.zero_le n)
/-- a demand of a script's run -/
noncomputable def scDj (w : List Int) (D : DtT) (j : Nat) : Int := scDe D.1 ((scX w).2.2.2.2.2.2.1 (D.2.2.2 j)).2.2.2.2.1
theorem scDe_b {E : EvE} {l : CdL} : scDe E l = 0 ∨ scDe E l = 1 ∨ scDe E l = -2 := by
  unfold scDe
  by_cases h : evF E l = 0
  · rw [if_pos h]
    by_cases h2 : evV E l = 0
    · rw [if_pos h2]; exact Or.inl rfl
    · rw [if_neg h2]; exact Or.inr (Or.inl rfl)
  · rw [if_neg h]; exact Or.inr (Or.inr rfl)
theorem scDj_b {w : List Int} {D : DtT} {j : Nat} : scDj w D j = 0 ∨ scDj w D j = 1 ∨ scDj w D j = -2 := scDe_b
/-- whether a release is due -/
noncomputable def scDu (w : List Int) (D : DtT) (e : Int) : Int := adN (scDj w D) e D.2.2.1
