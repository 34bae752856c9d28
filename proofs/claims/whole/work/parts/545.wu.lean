/-! WHAT IS KEPT, as the reference writes it; how long an object is -/
def zOU (k : Nat) (O : OoS) (I : ZI) : Prop := ∀ j : Nat, j < ocn O → okd O j = 9 → I (k + 8) j = otl O j 0 ∧ 0 ≤ I (k + 7) j ∧ I (k + 7) j + otl O j 0 ≤ 2000 ∧ ∀ t : Nat, t < otl O j 0 → I (k + 9) ((I (k + 7) j).toNat + t) = otc O j 0 t
theorem zOU_fr {k : Nat} {O : OoS} {I I' : ZI} (h : zOU k O I) (hf : ∀ x j : Nat, (k + 7 ≤ x ∧ x ≤ k + 9) → I' x j = I x j) : zOU k O I' := fun j hj h9 => by
  have w := h j hj h9
  rw [hf (k + 7) j (by omega)]
  exact ⟨(hf _ _ (by omega)).trans w.1, w.2.1, w.2.2.1, fun t ht => (hf _ _ (by omega)).trans (w.2.2.2 t ht)⟩
theorem zVO_U9 {k : Nat} {c : Nat → Int} {n b : Nat} {s : TyS} {I L : ZI} (h : zVO k c n b 1 s I L) (hk : tyk s ≤ 2000) (hq : ∀ j, j < tyn s → tyr s j 0 = 9 → tyr s j 2 ≤ tyr s j 3) : zOU k (tOS c n b s) I := fun j hj h9 => by
  have w := (h.2.2 rfl j hj).2.2.2 h9
  have e9 : tyr s j 0 = 9 := h9
  have el : ((otl (tOS c n b s) j 0 : Nat) : Int) = tyr s j 3 - tyr s j 2 := by
    have e : otl (tOS c n b s) j 0 = (tyr s j 3 - tyr s j 2).toNat := by
      show tOl c n b (tyr s j) 0 = _
      unfold tOl
      rw [if_pos e9, if_pos rfl]
    have w1 := hq j hj e9
    omega
  refine ⟨w.1.trans el.symm, w.2.1, by have w3 := w.2.2.1; omega, fun t ht => (w.2.2.2 t (by omega)).trans ?_⟩
  show _ = tOc c n b (tyr s j) 0 t
  unfold tOc
  rw [if_pos e9]
theorem wFd_l : ∀ {k : Nat} {r : Int}, (wFd k r).length ≤ k
  | 0, _ => Nat.le_refl 0
  | k + 1, r => by
    unfold wFd
    split
    · have ih := wFd_l (k := k) (r := r % tTn k)
      show _ + 1 ≤ _
      omega
    · exact Nat.zero_le _
theorem wFr_l {r : Int} : (wFr r).length ≤ 7 := by
  unfold wFr
  split
  · have ih := wFd_l (k := 6) (r := r)
    show _ + 1 ≤ _
    omega
  · exact Nat.zero_le _
theorem wNb_l {v : Int} {l : Nat} : (wNb v l).length ≤ 12 := by
  unfold wNb
  rw [List.length_append]
  have h1 : (if v < 0 then [45] else [] : List Int).length ≤ 1 := by split; exact Nat.le_refl 1; exact Nat.zero_le _
  by_cases hl : l = 1
  · rw [if_pos hl, List.length_append]
    have a := wWh_l (v := wAb v / 1000000)
    have b := wFr_l (r := wAb v % 1000000)
    omega
  · rw [if_neg hl]
    have a := wWh_l (v := wAb v)
    omega
theorem wF1_l {O : OoS} {j a i : Nat} (h : ∀ w, w < 2 → otl O j w ≤ 40) (ha : a ≤ 8) (hi : i < tFn a) : (wF1 O j a i).length ≤ 82 := by
  unfold wF1
  split
  · show 1 ≤ 82; omega
  · split
    · have hb := (tFn_b a (by omega)).1
      have w := tNc_s a (by omega) i (by omega)
      have z := h (oCi a 1 i) (by omega)
      have z2 := wBd_l (g := otc O j (oCi a 1 i)) (m := otl O j (oCi a 1 i))
      unfold wQt
      rw [List.length_append, List.length_append]
      show 1 + _ + 1 ≤ 82
      omega
    · have z := wNb_l (v := onm O j (tNc a i)) (l := tLen (tFc a i))
      omega
theorem wFs_l {O : OoS} {j a : Nat} (h : ∀ w, w < 2 → otl O j w ≤ 40) (ha : a ≤ 8) : ∀ {i : Nat}, i ≤ tFn a → (wFs O j a i).length ≤ 83 * i
  | 0, _ => Nat.le_refl 0
  | i + 1, hi => by
    have ih := wFs_l h ha (i := i) (by omega)
    have z := wF1_l (i := i) h ha (by omega)
    unfold wFs
    rw [List.length_append, List.length_append]
    show _ + (1 + _) ≤ _
    omega
theorem wOb_l {O : OoS} {j a : Nat} (h : ∀ w, w < 2 → otl O j w ≤ 40) (ha : a ≤ 8) : (wOb O j a).length ≤ 421 := by
  have hb := (tFn_b a (by omega)).1
  have z := wFs_l (i := tFn a) h ha (Nat.le_refl _)
  have z2 := wWd_b (a := a) (by omega)
  unfold wOb
  rw [List.length_append]
  omega
theorem wRw_l {g : Nat → Int} : ∀ {m : Nat}, (wRw g m).length = m
  | 0 => rfl
  | m + 1 => by
    have ih := wRw_l (g := g) (m := m)
    unfold wRw
    rw [List.length_append, ih]
    rfl
theorem wHd_l {fm : Int} : (if fm = 0 then [40] else [] : List Int).length ≤ 1 := by
  split
  · exact Nat.le_refl 1
  · exact Nat.zero_le _
