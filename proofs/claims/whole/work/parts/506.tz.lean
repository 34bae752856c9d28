/-! THE READING, step by step -/
def tDd (c : Nat → Int) (l d : Nat) : Prop := ∀ t, t ≤ d → c (l + t) = 46
/-- where what is kept of lines ends -/
def tlP (c : Nat → Int) (n lim d q : Nat) : Prop := (c q = 10 ∧ ¬ tDd c (q + 1) d) ∨ n ≤ q ∨ lim ≤ q
noncomputable def tlE (c : Nat → Int) (n lim d q0 : Nat) : Nat := q0 + (zlow (fun t => tlP c n lim d (q0 + t)) (n + 1)).toNat
noncomputable def tlX (c : Nat → Int) (n lim d q0 : Nat) : Int := if lim < q0 then (lim : Int) else zite (c (tlE c n lim d q0) = 10 ∧ ¬ tDd c (tlE c n lim d q0 + 1) d) (-1) (tlE c n lim d q0 : Int)
theorem tlE_at {c : Nat → Int} {n lim d q0 q : Nat} (hq : q0 ≤ q) (hl : ∀ t, q0 ≤ t → t < q → ¬ tlP c n lim d t) (h : tlP c n lim d q) : tlE c n lim d q0 = q := by
  have hn : q < q0 + n + 1 := by
    rcases Nat.lt_or_ge (q0 + n) q with z | z
    · exact absurd (Or.inr (Or.inl (by omega))) (hl (q0 + n) (by omega) z)
    · omega
  have w := zlow_at (P := fun t => tlP c n lim d (q0 + t)) (r := q - q0) (by show tlP c n lim d (q0 + (q - q0)); rw [show q0 + (q - q0) = q by omega]; exact h) (fun t ht => hl (q0 + t) (by omega) (by omega)) (show q - q0 < n + 1 by omega)
  unfold tlE
  rw [w]
  omega
theorem tlX_l {c : Nat → Int} {n lim d q0 : Nat} (h : lim < q0) : tlX c n lim d q0 = lim := if_pos h
theorem tlX_e {c : Nat → Int} {n lim d q0 q : Nat} (h0 : ¬ lim < q0) (hq : q0 ≤ q) (hl : ∀ t, q0 ≤ t → t < q → ¬ tlP c n lim d t) (h : c q = 10 ∧ ¬ tDd c (q + 1) d) : tlX c n lim d q0 = -1 ∧ tlE c n lim d q0 = q := by
  have e := tlE_at hq hl (Or.inl h)
  unfold tlX
  rw [e, if_neg h0, zite_t h]
  exact ⟨rfl, rfl⟩
theorem tlX_f {c : Nat → Int} {n lim d q0 q : Nat} (h0 : ¬ lim < q0) (hq : q0 ≤ q) (hl : ∀ t, q0 ≤ t → t < q → ¬ tlP c n lim d t) (h : ¬ (c q = 10 ∧ ¬ tDd c (q + 1) d)) (h2 : n ≤ q ∨ lim ≤ q) : tlX c n lim d q0 = q := by
  have e := tlE_at hq hl (Or.inr h2)
  unfold tlX
  rw [e, if_neg h0, zite_f h]
theorem tlX_b {c : Nat → Int} {n lim d q0 : Nat} (hc : tOk c n) (h : tlX c n lim d q0 = -1) : q0 ≤ tlE c n lim d q0 ∧ tlE c n lim d q0 < n ∧ tlE c n lim d q0 ≤ lim ∧ c (tlE c n lim d q0) = 10 := by
  unfold tlX at h
  split at h
  · omega
  · rename_i h0
    by_cases g : c (tlE c n lim d q0) = 10 ∧ ¬ tDd c (tlE c n lim d q0 + 1) d
    · have z := hc.2.2 (tlE c n lim d q0)
      have z2 : q0 ≤ tlE c n lim d q0 := Nat.le_add_right _ _
      refine ⟨z2, by omega, ?_, g.1⟩
      rcases zlow_sp (fun t => tlP c n lim d (q0 + t)) (n + 1) with ⟨q1, q2⟩ | ⟨r, q1, q2, q3, q4⟩
      · have e : tlE c n lim d q0 = q0 := by unfold tlE; rw [q1]; rfl
        omega
      · have e : tlE c n lim d q0 = q0 + r := by unfold tlE; rw [q2]; rfl
        rcases Nat.eq_zero_or_pos r with y | y
        · omega
        · rcases Nat.lt_or_ge lim (q0 + r) with x | x
          · exact absurd (Or.inr (Or.inr (by omega))) (q4 (r - 1) (by omega))
          · omega
    · rw [zite_f g] at h
      omega
/-- what is kept of an object of unknown kind: fault, end -/
noncomputable def tkX (c : Nat → Int) (n b lim d q : Nat) : Int := if b = 1 then tuX c n lim d q else tlX c n lim d q
noncomputable def tkE (c : Nat → Int) (n b lim d q : Nat) : Nat := if b = 1 then tuE c n lim d q else tlE c n lim d q
theorem tkX_b {c : Nat → Int} {n b lim d q : Nat} (hc : tOk c n) (hb : b ≤ 1) (h : tkX c n b lim d q = -1) : q ≤ tkE c n b lim d q ∧ tkE c n b lim d q + (1 - b) ≤ n ∧ tkE c n b lim d q ≤ lim ∧ 0 < tkE c n b lim d q + (1 - b) := by
  unfold tkX at h
  unfold tkE
  by_cases e : b = 1
  · rw [if_pos e] at h ⊢
    have w := tuX_b hc h
    omega
  · rw [if_neg e] at h ⊢
    have w := tlX_b hc h
    omega
/-- an object whose name is at nm, of the kind a; its name's end is q -/
noncomputable def tyB (c : Nat → Int) (n b : Nat) (s : TyS) (q op d : Nat) (a : Int) : TyS :=
  if a = 9 then (if tkX c n b (op + 2000 - tyk s) d q = -1 then tyU s (tkE c n b (op + 2000 - tyk s) d q + (1 - b)) d op (tkE c n b (op + 2000 - tyk s) d q) else tyF s (tkX c n b (op + 2000 - tyk s) d q).toNat)
  else if tVz c n b a.toNat q (tFv a.toNat (tyx s)) = -1 then (if b = 0 ∧ c (tVp c n b a.toNat q (tFv a.toNat (tyx s))) ≠ 10 then tyF s (tVp c n b a.toNat q (tFv a.toNat (tyx s))) else tyO s (tVp c n b a.toNat q (tFv a.toNat (tyx s)) + (1 - b)) d a q (tXx c n b a.toNat q (tFv a.toNat (tyx s)) (tyx s)))
  else tyF s (tVz c n b a.toNat q (tFv a.toNat (tyx s))).toNat
noncomputable def tyG (c : Nat → Int) (n b : Nat) (s : TyS) (nm op d : Nat) : TyS := zite (tBg c n nm (tyz s d) (tyn s)) (tyB c n b s (tSk tSm c n nm) op d (tKd c nm (tSk tSm c n nm))) (tyF s nm)
def tDo (x : Int) : Prop := x = 46
noncomputable def tyD (c : Nat → Int) (n : Nat) (s : TyS) : Nat := tSk tDo c n (typ s) - typ s
noncomputable def tyL (c : Nat → Int) (n : Nat) (s : TyS) (p : Nat) : TyS := if tyd s = 100 then tyF s p else tyG c n 1 s (tSk tBk c n (p + 1)) p (tyd s)
noncomputable def tyA (c : Nat → Int) (n b : Nat) (s : TyS) : TyS :=
  if b = 1 then (if c (tSk tBk c n (typ s)) = 40 then tyL c n s (tSk tBk c n (typ s)) else if c (tSk tBk c n (typ s)) = 41 ∧ tyd s ≠ 0 then tyC s (tSk tBk c n (typ s) + 1) else tyF s (tSk tBk c n (typ s)))
  else if tyd s < tyD c n s then tyF s (typ s + tyd s) else if tyD c n s = 0 ∧ 0 < typ s then tyF s (typ s) else tyG c n 0 s (typ s + tyD c n s) (typ s + tyD c n s) (tyD c n s)
/-- the reading has ended -/
def tyE (n b : Nat) (s : TyS) : Prop := tyf s ≠ -1 ∨ (b = 1 ∧ tyd s = 0 ∧ tyn s ≠ 0) ∨ (b ≠ 1 ∧ n ≤ typ s ∧ tyn s ≠ 0)
noncomputable def tyI (c : Nat → Int) (n b : Nat) : Nat → TyS
  | 0 => ty0
  | i + 1 => zite (tyE n b (tyI c n b i)) (tyI c n b i) (tyA c n b (tyI c n b i))
def tRe (c : Nat → Int) (n b : Nat) (s : TyS) : Prop := ∃ i, s = tyI c n b i
theorem tRe_0 {c : Nat → Int} {n b : Nat} : tRe c n b ty0 := ⟨0, rfl⟩
theorem tRe_s {c : Nat → Int} {n b : Nat} {s : TyS} (h : tRe c n b s) (he : ¬ tyE n b s) : tRe c n b (tyA c n b s) := by
  obtain ⟨i, rfl⟩ := h
  exact ⟨i + 1, (zite_f he).symm⟩
theorem tyI_e {c : Nat → Int} {n b i : Nat} (h : tyE n b (tyI c n b i)) : ∀ j, tyI c n b (i + j) = tyI c n b i
  | 0 => rfl
  | j + 1 => by
    have e : tyI c n b (i + (j + 1)) = zite (tyE n b (tyI c n b (i + j))) (tyI c n b (i + j)) (tyA c n b (tyI c n b (i + j))) := rfl
    rw [e, tyI_e h j, zite_t h]
/-- there is one end -/
theorem tRe_u {c : Nat → Int} {n b : Nat} {s t : TyS} (hs : tRe c n b s) (ht : tRe c n b t) (es : tyE n b s) (et : tyE n b t) : s = t := by
  obtain ⟨i, rfl⟩ := hs
  obtain ⟨j, rfl⟩ := ht
  rcases Nat.le_total i j with h | h
  · have w := tyI_e es (j - i)
    rw [show i + (j - i) = j by omega] at w
    exact w.symm
  · have w := tyI_e et (i - j)
    rw [show j + (i - j) = i by omega] at w
    exact w
/-- the text's fault -/
noncomputable def tyZ (c : Nat → Int) (n b : Nat) (s : TyS) : Int := if tyf s ≠ -1 then tyf s else if b = 1 ∧ tSk tBk c n (typ s) < n then (tSk tBk c n (typ s) : Int) else -1
