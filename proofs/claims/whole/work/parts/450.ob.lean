/-! OBJECTS of a text, and the drawing that they make -/
/-- how many; kinds; parents; numbers; lengths of texts; letters -/
abbrev OoS : Type := Nat × (Nat → Int) × (Nat → Int) × (Nat → Nat → Int) × (Nat → Nat → Nat) × (Nat → Nat → Nat → Int)
abbrev ocn (O : OoS) : Nat := O.1
abbrev okd (O : OoS) : Nat → Int := O.2.1
abbrev opa (O : OoS) : Nat → Int := O.2.2.1
abbrev onm (O : OoS) : Nat → Nat → Int := O.2.2.2.1
abbrev otl (O : OoS) : Nat → Nat → Nat := O.2.2.2.2.1
abbrev otc (O : OoS) : Nat → Nat → Nat → Int := O.2.2.2.2.2
/-- which kind may be in which -/
def oCan (a b : Int) : Prop := (a = 1 → b = 0 ∨ b = 1) ∧ (a = 2 → b = 1) ∧ (a = 3 → b = 2) ∧ (a = 4 → b = 3) ∧ (a = 5 → b = 3) ∧ (a = 6 → b = 1 ∨ b = 3) ∧ (a = 7 → b = 1) ∧ (a = 8 → b = 1 ∨ b = 2) ∧ (a = 9 → b ≤ 3)
def oGd (O : OoS) : Prop := ocn O ≤ 200 ∧ (∀ j, j < ocn O → (0 ≤ okd O j ∧ okd O j ≤ 9) ∧ (-1 ≤ opa O j ∧ opa O j < j) ∧ (j = 0 → okd O j = 0) ∧ (0 < j → 1 ≤ okd O j ∧ 0 ≤ opa O j ∧ oCan (okd O j) (okd O (opa O j).toNat))) ∧
  (∀ j w, j < ocn O → w < 5 → jFar (onm O j w)) ∧ (∀ j w, j < ocn O → w < 2 → otl O j w ≤ 4000 ∧ (okd O j ≠ 9 → otl O j w ≤ 40)) ∧ ∀ j w i, j < ocn O → w < 2 → i < otl O j w → 0 ≤ otc O j w i ∧ otc O j w i ≤ 126
/-- the objects as the class's object at k holds them -/
def zOB (k : Nat) (O : OoS) (I L : ZI) : Prop := I k 0 = ocn O ∧ (∀ j : Nat, j < ocn O → I (k + 1) j = okd O j ∧ I (k + 2) j = opa O j) ∧ (∀ j w : Nat, j < ocn O → w < 5 → L (k + 4) (5 * j + w) = onm O j w) ∧
  ∀ j w : Nat, j < ocn O → w < 2 → I (k + 6) (2 * j + w) = otl O j w ∧ 0 ≤ I (k + 5) (2 * j + w) ∧ I (k + 5) (2 * j + w) + otl O j w ≤ 4000 ∧ ∀ i : Nat, i < otl O j w → I (k + 7) ((I (k + 5) (2 * j + w)).toNat + i) = otc O j w i
theorem zOB_fr {k : Nat} {O : OoS} {I L I' L' : ZI} (h : zOB k O I L) (hf : ∀ c j : Nat, (c = k ∧ j = 0) ∨ (k + 1 ≤ c ∧ c ≤ k + 7) → I' c j = I c j) (hl : ∀ c j : Nat, c = k + 4 → L' c j = L c j) : zOB k O I' L' := by
  obtain ⟨h1, h2, h3, h4⟩ := h
  refine ⟨(hf k 0 (by omega)).trans h1, fun j hj => ⟨(hf _ _ (by omega)).trans (h2 j hj).1, (hf _ _ (by omega)).trans (h2 j hj).2⟩, fun j w hj hw => (hl _ _ rfl).trans (h3 j w hj hw), fun j w hj hw => ?_⟩
  have w := h4 j w hj hw
  rw [hf (k + 5) _ (by omega)]
  exact ⟨(hf _ _ (by omega)).trans w.1, w.2.1, w.2.2.1, fun i hi => (hf _ _ (by omega)).trans (w.2.2.2 i hi)⟩
/-! what the class and the reference ask of texts -/
def oOf (O : OoS) (j : Nat) : Prop := otl O j 0 = 2 ∧ otc O j 0 0 = 111 ∧ otc O j 0 1 = 102
def oPl (O : OoS) (j : Nat) : Prop := otl O j 0 = 1 ∧ otc O j 0 0 = 43
def oSm (O : OoS) (a w b u : Nat) : Prop := otl O a w = otl O b u ∧ ∀ i, i < otl O a w → otc O a w i = otc O b u i
/-- the field that tells which sheet a sheet repeats -/
def oFp (O : OoS) (k j : Nat) : Prop := opa O j = k ∧ okd O j = 8 ∧ oOf O j
noncomputable def oFl (O : OoS) (k : Nat) : Int := zlow (oFp O k) (ocn O)
/-- sheets ahead of an object; the sheet of an object -/
noncomputable def oSc (O : OoS) (k : Nat) : Nat := zct (fun j => okd O j = 1) k
noncomputable def oSh (O : OoS) (k : Nat) : Int := if okd O k = 1 ∧ oSc O k < 16 then (oSc O k : Int) else -1
noncomputable def oPs (O : OoS) (k : Nat) : Int := if 0 ≤ opa O k then oSh O (opa O k).toNat else -1
/-- the drawn sheet ahead that an object repeats -/
def oRq (O : OoS) (s : JdS × (Nat → Int)) (f t : Nat) : Prop := dbs s.1 t = t ∧ oSm O f 1 (s.2 t).toNat 0
noncomputable def oRp (O : OoS) (s : JdS × (Nat → Int)) (k : Nat) : Int := if oFl O k = -1 then -1 else zlow (oRq O s (oFl O k).toNat) (dns s.1)
def jd0 : JdS := ((0, fun _ => 0, fun _ => 0), (0, fun _ _ => 0), (0, fun _ _ => 0), (0, fun _ _ => 0), (0, fun _ _ => 0), (0, fun _ _ => 0))
/-- the sheets of the first k objects, and their objects -/
noncomputable def oSt (O : OoS) : Nat → JdS × (Nat → Int)
  | 0 => (jd0, fun _ => 0)
  | k + 1 => if okd O k = 1 ∧ oSc O k < 16 then (djS (oSt O k).1 (oPs O k) (oRp O (oSt O k) k), upF (oSt O k).2 (oSc O k) (k : Int)) else oSt O k
theorem oSc_m {O : OoS} {a b : Nat} (h : a ≤ b) : oSc O a ≤ oSc O b := zct_le2 h
theorem oSc_t {O : OoS} {k : Nat} (h : okd O k = 1) : oSc O (k + 1) = oSc O k + 1 := zct_t (P := fun j => okd O j = 1) h
theorem oSc_f {O : OoS} {k : Nat} (h : ¬ okd O k = 1) : oSc O (k + 1) = oSc O k := zct_f (P := fun j => okd O j = 1) h
theorem oSt_t {O : OoS} {k : Nat} (h : okd O k = 1 ∧ oSc O k < 16) : oSt O (k + 1) = (djS (oSt O k).1 (oPs O k) (oRp O (oSt O k) k), upF (oSt O k).2 (oSc O k) (k : Int)) := if_pos h
theorem oSt_f {O : OoS} {k : Nat} (h : ¬ (okd O k = 1 ∧ oSc O k < 16)) : oSt O (k + 1) = oSt O k := if_neg h
theorem oSt_n {O : OoS} : ∀ k, dns (oSt O k).1 = min (oSc O k) 16
  | 0 => rfl
  | k + 1 => by
    have ih := oSt_n (O := O) k
    by_cases h : okd O k = 1
    · rw [oSc_t h]
      by_cases h2 : oSc O k < 16
      · rw [oSt_t ⟨h, h2⟩]
        show dns (oSt O k).1 + 1 = _
        omega
      · rw [oSt_f (fun w => h2 w.2)]
        omega
    · rw [oSc_f h, oSt_f (fun w => h w.1)]
      exact ih
theorem oSh_no {O : OoS} {k : Nat} (h : ¬ (okd O k = 1 ∧ oSc O k < 16)) : oSh O k = -1 := if_neg h
theorem oSh_at {O : OoS} {k : Nat} (h : okd O k = 1 ∧ oSc O k < 16) : oSh O k = oSc O k := if_pos h
theorem oSh_b {O : OoS} {j k : Nat} (h : j < k) : -1 ≤ oSh O j ∧ oSh O j < dns (oSt O k).1 := by
  rw [oSt_n]
  by_cases q : okd O j = 1 ∧ oSc O j < 16
  · rw [oSh_at q]
    have w := oSc_m (O := O) (show j + 1 ≤ k by omega)
    rw [oSc_t q.1] at w
    omega
  · rw [oSh_no q]
    omega
/-- the object of a sheet, the sheet of an object -/
theorem oSt_o {O : OoS} : ∀ {k j : Nat}, j < k → 0 ≤ oSh O j → (oSt O k).2 (oSh O j).toNat = j
  | 0, j, h, _ => absurd h (Nat.not_lt_zero j)
  | k + 1, j, h, h2 => by
    by_cases q : okd O k = 1 ∧ oSc O k < 16
    · rw [oSt_t q]
      show upF (oSt O k).2 (oSc O k) (k : Int) (oSh O j).toNat = j
      by_cases e : j = k
      · rw [e, oSh_at q, show ((oSc O k : Nat) : Int).toNat = oSc O k from rfl, upF_at]
      · have w := oSh_b (O := O) (show j < k by omega)
        rw [oSt_n] at w
        rw [upF_ne (by omega)]
        exact oSt_o (by omega) h2
    · rw [oSt_f q]
      by_cases e : j = k
      · rw [e, oSh_no q] at h2
        omega
      · exact oSt_o (by omega) h2
theorem oSt_i {O : OoS} : ∀ {k t : Nat}, t < dns (oSt O k).1 → zex fun j => (oSt O k).2 t = (j : Nat) ∧ j < k ∧ okd O j = 1 ∧ oSc O j < 16 ∧ oSh O j = t
  | 0, t, h => absurd h (Nat.not_lt_zero t)
  | k + 1, t, h => by
    by_cases q : okd O k = 1 ∧ oSc O k < 16
    · rw [oSt_t q] at h ⊢
      have h9 : t < dns (oSt O k).1 + 1 := h
      have w := oSt_n (O := O) k
      show zex fun j => upF (oSt O k).2 (oSc O k) (k : Int) t = (j : Nat) ∧ j < k + 1 ∧ okd O j = 1 ∧ oSc O j < 16 ∧ oSh O j = t
      by_cases e : t = oSc O k
      · exact ⟨k, by rw [e, upF_at], Nat.lt_succ_self k, q.1, q.2, (oSh_at q).trans (by rw [e])⟩
      · obtain ⟨j, h1, h2, h3⟩ := oSt_i (O := O) (k := k) (t := t) (by omega)
        exact ⟨j, by rw [upF_ne e]; exact h1, by omega, h3⟩
    · rw [oSt_f q] at h ⊢
      obtain ⟨j, h1, h2, h3⟩ := oSt_i (O := O) (k := k) (t := t) h
      exact ⟨j, h1, by omega, h3⟩
theorem oPs_b {O : OoS} {k : Nat} (h : oGd O) (hk : k < ocn O) : -1 ≤ oPs O k ∧ oPs O k < dns (oSt O k).1 := by
  unfold oPs
  have w := (h.2.1 k hk).2.1
  split
  · exact oSh_b (by omega)
  · omega
theorem oRp_b {O : OoS} {s : JdS × (Nat → Int)} {k : Nat} : oRp O s k = -1 ∨ (0 ≤ oRp O s k ∧ oRp O s k < dns s.1 ∧ dbs s.1 (oRp O s k).toNat = oRp O s k) := by
  unfold oRp
  split
  · exact Or.inl rfl
  · rcases zlow_sp (oRq O s (oFl O k).toNat) (dns s.1) with w | ⟨r, w1, w2, w3, w4⟩
    · exact Or.inl w.1
    · refine Or.inr ?_
      rw [w2]
      have w5 := w3.1
      exact ⟨by omega, by omega, by show ((dbs s.1 r : Nat) : Int) = r; omega⟩
theorem jGd_0 : jGd jd0 := ⟨⟨by decide, by decide, by decide, by decide, by decide, by decide⟩, fun _ h => absurd h (Nat.not_lt_zero _), fun _ h => absurd h (Nat.not_lt_zero _), fun _ h => absurd h (Nat.not_lt_zero _), fun _ h => absurd h (Nat.not_lt_zero _), fun _ h => absurd h (Nat.not_lt_zero _), fun _ h => absurd h (Nat.not_lt_zero _)⟩
theorem oSt_g {O : OoS} (h : oGd O) : ∀ {k : Nat}, k ≤ ocn O → jGd (oSt O k).1
  | 0, _ => jGd_0
  | k + 1, hk => by
    have ih := oSt_g h (show k ≤ ocn O by omega)
    by_cases q : okd O k = 1 ∧ oSc O k < 16
    · rw [oSt_t q]
      exact jGd_S ih (by rw [oSt_n]; omega) (oPs_b h (by omega)) oRp_b
    · rw [oSt_f q]
      exact ih
theorem oSt_r {O : OoS} : ∀ k, (oSt O k).1.2 = jd0.2
  | 0 => rfl
  | k + 1 => by
    by_cases q : okd O k = 1 ∧ oSc O k < 16
    · rw [oSt_t q]
      exact oSt_r k
    · rw [oSt_f q]
      exact oSt_r k
