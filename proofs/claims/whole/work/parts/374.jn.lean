/-! JOINING: the way back -/
theorem cxI_of {W H D l i j : Nat} (hl : l < D) (hi : i < W) (hj : j < H) : cxI W H D l i j = ((l * H + j) * W + i : Nat) := by
  unfold cxI
  rw [if_pos (by omega)]
  rfl
theorem cxI_no {W H D : Nat} {l i j : Int} {e : Nat} (h : cxI W H D l i j = e) : ∃ l' i' j' : Nat, l = l' ∧ i = i' ∧ j = j' ∧ l' < D ∧ i' < W ∧ j' < H ∧ e = (l' * H + j') * W + i' := by
  unfold cxI at h
  split at h
  · next q => exact ⟨l.toNat, i.toNat, j.toNat, by omega, by omega, by omega, by omega, by omega, by omega, by omega⟩
  · omega
/-- going there and back -/
theorem nbI_sym {W H D c x e : Nat} (hc : c < W * H * D) (hx : x < 6) (h : nbI W H D c x = e) : nbI W H D e (5 - x) = c := by
  obtain ⟨q1, q2, q3, q4⟩ := cx_of hc
  have key : ∀ l' i' j' : Nat, l' < D → i' < W → j' < H → e = (l' * H + j') * W + i' → e / W / H = l' ∧ e % W = i' ∧ e / W % H = j' := by
    rintro l' i' j' h1 h2 h3 rfl
    exact ⟨cx_lay h2 h3, cx_col h2, cx_row h2 h3⟩
  have fin : cxI W H D (c / W / H : Nat) (c % W : Nat) (c / W % H : Nat) = c := (cxI_of q1 q2 q3).trans (congrArg Nat.cast q4)
  have hxx : x = 0 ∨ x = 1 ∨ x = 2 ∨ x = 3 ∨ x = 4 ∨ x = 5 := by omega
  rcases hxx with rfl | rfl | rfl | rfl | rfl | rfl
  · obtain ⟨l', i', j', h1, h2, h3, h4, h5, h6, h7⟩ := cxI_no (show cxI W H D ((c / W / H : Nat) - 1) (c % W : Nat) (c / W % H : Nat) = e from h)
    obtain ⟨k1, k2, k3⟩ := key l' i' j' h4 h5 h6 h7
    refine (show cxI W H D ((e / W / H : Nat) + 1) (e % W : Nat) (e / W % H : Nat) = c from ?_)
    rw [k1, k2, k3, ← h2, ← h3, show ((l' : Int) + 1) = (c / W / H : Nat) by omega]
    exact fin
  · obtain ⟨l', i', j', h1, h2, h3, h4, h5, h6, h7⟩ := cxI_no (show cxI W H D (c / W / H : Nat) (c % W : Nat) ((c / W % H : Nat) - 1) = e from h)
    obtain ⟨k1, k2, k3⟩ := key l' i' j' h4 h5 h6 h7
    refine (show cxI W H D (e / W / H : Nat) (e % W : Nat) ((e / W % H : Nat) + 1) = c from ?_)
    rw [k1, k2, k3, ← h2, ← h1, show ((j' : Int) + 1) = (c / W % H : Nat) by omega]
    exact fin
  · obtain ⟨l', i', j', h1, h2, h3, h4, h5, h6, h7⟩ := cxI_no (show cxI W H D (c / W / H : Nat) ((c % W : Nat) - 1) (c / W % H : Nat) = e from h)
    obtain ⟨k1, k2, k3⟩ := key l' i' j' h4 h5 h6 h7
    refine (show cxI W H D (e / W / H : Nat) ((e % W : Nat) + 1) (e / W % H : Nat) = c from ?_)
    rw [k1, k2, k3, ← h1, ← h3, show ((i' : Int) + 1) = (c % W : Nat) by omega]
    exact fin
  · obtain ⟨l', i', j', h1, h2, h3, h4, h5, h6, h7⟩ := cxI_no (show cxI W H D (c / W / H : Nat) ((c % W : Nat) + 1) (c / W % H : Nat) = e from h)
    obtain ⟨k1, k2, k3⟩ := key l' i' j' h4 h5 h6 h7
    refine (show cxI W H D (e / W / H : Nat) ((e % W : Nat) - 1) (e / W % H : Nat) = c from ?_)
    rw [k1, k2, k3, ← h1, ← h3, show ((i' : Int) - 1) = (c % W : Nat) by omega]
    exact fin
  · obtain ⟨l', i', j', h1, h2, h3, h4, h5, h6, h7⟩ := cxI_no (show cxI W H D (c / W / H : Nat) (c % W : Nat) ((c / W % H : Nat) + 1) = e from h)
    obtain ⟨k1, k2, k3⟩ := key l' i' j' h4 h5 h6 h7
    refine (show cxI W H D (e / W / H : Nat) (e % W : Nat) ((e / W % H : Nat) - 1) = c from ?_)
    rw [k1, k2, k3, ← h2, ← h1, show ((j' : Int) - 1) = (c / W % H : Nat) by omega]
    exact fin
  · obtain ⟨l', i', j', h1, h2, h3, h4, h5, h6, h7⟩ := cxI_no (show cxI W H D ((c / W / H : Nat) + 1) (c % W : Nat) (c / W % H : Nat) = e from h)
    obtain ⟨k1, k2, k3⟩ := key l' i' j' h4 h5 h6 h7
    refine (show cxI W H D ((e / W / H : Nat) - 1) (e % W : Nat) (e / W % H : Nat) = c from ?_)
    rw [k1, k2, k3, ← h2, ← h3, show ((l' : Int) - 1) = (c / W / H : Nat) by omega]
    exact fin
/-- whether a cell was come to from a side -/
def bBp (s : BdS) (n : Nat) (r : Int) (c x : Nat) : Prop := bnb s c x ≠ -1 ∧ 0 ≤ bDn s n r (bnb s c x).toNat ∧ bDn s n r (bnb s c x).toNat + bStp s (bnb s c x).toNat (5 - x) + bTl s n r c = bDn s n r c
noncomputable def bBk (s : BdS) (n : Nat) (r : Int) (c : Nat) : Int := if zlow (bBp s n r c) 6 = -1 then -1 else bnb s c (zlow (bBp s n r c) 6).toNat
theorem bBk_sp {s : BdS} {n : Nat} {r : Int} {c : Nat} (hb : bK s ≤ 1024) (h0 : 0 ≤ bDn s n r c) (hT : ¬ bTr s n c) : ∃ e : Nat, bBk s n r c = e ∧ e < bK s ∧ 0 ≤ bDn s n r e ∧ bDn s n r e + 2 ≤ bDn s n r c := by
  obtain ⟨c', x, y1, y2, y3, y4, y5⟩ := bDi_p h0 hT
  have w := nbI_sym (bDi_lt hb y3) y1 y2
  have e5 : 5 - (5 - x) = x := by omega
  have hP : bBp s n r c (5 - x) := by
    have w2 : bnb s c (5 - x) = c' := w
    refine ⟨by omega, ?_, ?_⟩
    · rw [w2]; exact y3
    · rw [w2, e5]; exact y5.symm
  unfold bBk
  rcases zlow_sp (bBp s n r c) 6 with q | q
  · exact absurd hP (q.2 _ (by omega))
  · obtain ⟨k, k1, k2, k3, k4⟩ := q
    rw [k2, if_neg (by omega), show ((k : Nat) : Int).toNat = k from rfl]
    obtain ⟨p1, p2, p3⟩ := k3
    have t0 := bTl_ge s n r c
    have t1 := bStp_2 s (bnb s c k).toNat (5 - k)
    have b0 := nbI_b (W := bW s) (H := bH s) (D := bD s) (c := c) (s := k) hb
    have e9 : nbI (bW s) (bH s) (bD s) c k = bnb s c k := rfl
    have e8 : (bW s * bH s * bD s : Nat) = bK s := rfl
    exact ⟨(bnb s c k).toNat, by omega, by omega, p2, by omega⟩
/-- the cells of the way back -/
noncomputable def bPth (s : BdS) (n : Nat) (r : Int) (c : Nat) : Nat → Nat
  | 0 => c
  | k + 1 => (bBk s n r (bPth s n r c k)).toNat
theorem bPth_sp {s : BdS} {n : Nat} {r : Int} {c : Nat} (hb : bK s ≤ 1024) (h0 : 0 ≤ bDn s n r c) : ∀ k, (∀ j, j < k → ¬ bTr s n (bPth s n r c j)) → bPth s n r c k < bK s ∧ 0 ≤ bDn s n r (bPth s n r c k) ∧ ∀ j, j < k → bDn s n r (bPth s n r c k) + 2 * (k - j) ≤ bDn s n r (bPth s n r c j) ∧ bBk s n r (bPth s n r c j) = bPth s n r c (j + 1)
  | 0, _ => ⟨bDi_lt hb h0, h0, fun j hj => absurd hj (Nat.not_lt_zero j)⟩
  | k + 1, h => by
    obtain ⟨i1, i2, i3⟩ := bPth_sp hb h0 k (fun j hj => h j (by omega))
    obtain ⟨e, e1, e2, e3, e4⟩ := bBk_sp hb i2 (h k (by omega))
    have e5 : bPth s n r c (k + 1) = e := by
      show (bBk s n r (bPth s n r c k)).toNat = e
      rw [e1]; rfl
    rw [e5]
    refine ⟨e2, e3, fun j hj => ?_⟩
    by_cases q : j = k
    · subst q
      exact ⟨by omega, by rw [e1, e5]⟩
    · have w := i3 j (by omega)
      exact ⟨by omega, w.2⟩
/-- how long it is -/
noncomputable def bPl (s : BdS) (n : Nat) (r : Int) (c : Nat) : Nat := (zmin (fun k => bTr s n (bPth s n r c k))).toNat
theorem bPl_sp {s : BdS} {n : Nat} {r : Int} {c : Nat} (hb : bK s ≤ 1024) (h0 : 0 ≤ bDn s n r c) : bTr s n (bPth s n r c (bPl s n r c)) ∧ ∀ j, j < bPl s n r c → ¬ bTr s n (bPth s n r c j) := by
  have ex : ∃ k, bTr s n (bPth s n r c k) := Classical.byContradiction (fun q => by
    have w := bPth_sp hb h0 ((bDn s n r c).toNat + 1) (fun j _ k => q ⟨j, k⟩)
    have w2 := (w.2.2 0 (by omega)).1
    have w3 : bPth s n r c 0 = c := rfl
    rw [w3] at w2
    omega)
  obtain ⟨k, hk⟩ := ex
  have w := zmin_sp (P := fun k => bTr s n (bPth s n r c k)) hk
  refine ⟨w.2.2, fun j hj q => ?_⟩
  have w2 := zmin_sp (P := fun k => bTr s n (bPth s n r c k)) q
  unfold bPl at hj
  omega
theorem bPth_ne {s : BdS} {n : Nat} {r : Int} {c i j : Nat} (hb : bK s ≤ 1024) (h0 : 0 ≤ bDn s n r c) (hi : i < j) (hj : j ≤ bPl s n r c) : bPth s n r c i ≠ bPth s n r c j := fun e => by
  have w := (bPth_sp hb h0 j (fun k hk => (bPl_sp hb h0).2 k (by omega))).2.2 i hi
  rw [e] at w
  omega
