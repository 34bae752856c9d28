/-- where the walk is: at an object, or behind the last -/
def wCx (O : OoS) (m : Nat) : Nat := if okd O m = 9 then 0 else 1
def wCv (O : OoS) (dp : Nat → Nat) (u t : Int) (m f x : Nat) : Prop := (u = -1 ∧ t = -1 ∧ m = ocn O ∧ x = wLo O dp (ocn O) ∧ f ≤ ocn O) ∨ (0 ≤ u ∧ t = dp u.toNat ∧ wCu O dp u.toNat m f ∧ x + dp u.toNat + wCx O u.toNat = wLo O dp m)
theorem wDp_l {O : OoS} {dp : Nat → Nat} (h : wPre O dp) : ∀ m, m < ocn O → dp m ≤ m
  | 0, _ => by have z := h.1; omega
  | m + 1, hm => by
    have z : dp (m + 1) ≤ dp m + 1 := wPre_n h (Nat.succ_pos m) hm
    have z2 := wDp_l h m (by omega)
    omega
theorem wLo_l {O : OoS} {dp : Nat → Nat} (h : wPre O dp) {m : Nat} (hm : m ≤ ocn O) : wLo O dp m ≤ m := by
  cases m with
  | zero => exact Nat.le_refl _
  | succ m =>
    have z := (wLo_e h m (by omega)).2
    have z2 := wDp_l h m (by omega)
    rw [z]
    by_cases e : okd O m = 9
    · rw [if_pos e]; omega
    · rw [if_neg e]; omega
theorem wCv_b {O : OoS} {dp : Nat → Nat} {u t : Int} {m f x : Nat} (hO : ocn O ≤ 200) (h : wPre O dp) (hc : wCv O dp u t m f x) : (-1 ≤ u ∧ u ≤ 199 ∧ u < ocn O) ∧ (-1 ≤ t ∧ t ≤ 199) ∧ m ≤ ocn O ∧ f ≤ ocn O ∧ x ≤ 200 := by
  rcases hc with ⟨c1, c2, c3, c4, c5⟩ | ⟨c1, c2, c3, c4⟩
  · have z := wLo_l h (Nat.le_refl (ocn O))
    omega
  · obtain ⟨d1, d2, d3, d4, d5, d6⟩ := c3
    have z := wLo_l h d2
    have z2 := wDp_l h u.toNat (by omega)
    omega
theorem wCv_0 {O : OoS} {dp : Nat → Nat} (h : wPre O dp) (hn : 0 < ocn O) : wCv O dp 0 0 1 1 0 := by
  have z := (wLo_e h 0 hn).2
  have z2 := h.1
  refine Or.inr ⟨by omega, by show (0 : Int) = (dp 0 : Nat); omega, wCu_0 h hn, ?_⟩
  show 0 + dp 0 + wCx O 0 = _
  rw [z]
  unfold wCx
  omega
/-- a child is found -/
theorem wCv_c {O : OoS} {dp : Nat → Nat} {u t v : Int} {m f x : Nat} (h : wPre O dp) (hc : wCv O dp u t m f x) (hu : u ≠ -1) (hv : f ≤ v ∧ v < ocn O ∧ opa O v.toNat = u ∧ ∀ i : Nat, f ≤ i → (i : Int) < v → opa O i ≠ u) :
    v = m ∧ m < ocn O ∧ 0 < m ∧ t + 1 = dp m ∧ x = wLo O dp m - dp m ∧ wCv O dp v (t + 1) (m + 1) (m + 1) 0 := by
  rcases hc with ⟨c1, c2, c3, c4, c5⟩ | ⟨c1, c2, c3, c4⟩
  · exact absurd c1 hu
  · have z := wCu_c h c3 (v := v.toNat) (by omega) (by omega) (by omega) (fun c h1 h2 e => hv.2.2.2 c h1 (by omega) (by omega))
    have c31 := c3.1
    have e : v = m := by omega
    have hm : m < ocn O := by omega
    have z1 := wLo_e h m hm
    have z4 : wCx O u.toNat = 1 := if_neg z.2.2
    refine ⟨e, hm, by omega, by omega, by omega, Or.inr ⟨by omega, ?_, ?_, ?_⟩⟩
    · rw [z.1]; omega
    · rw [z.1]; exact wCu_d h hm
    · rw [z.1, z1.2]
      show 0 + dp m + (if okd O m = 9 then 0 else 1) = _
      omega
/-- none is found: back to the one it is in -/
theorem wCv_p {O : OoS} {dp : Nat → Nat} {u t v : Int} {m f x : Nat} (h : wPre O dp) (h0 : opa O 0 = -1) (hc : wCv O dp u t m f x) (hu : u ≠ -1) (hl : ∀ i : Nat, f ≤ i → i < ocn O → opa O i ≠ u) (hv : v = opa O u.toNat) :
    wCv O dp v (t - 1) m (u.toNat + 1) (x + wCx O u.toNat) ∧ v < u := by
  rcases hc with ⟨c1, c2, c3, c4⟩ | ⟨c1, c2, c3, c4⟩
  · exact absurd c1 hu
  · have hl' : ∀ c, f ≤ c → c < ocn O → opa O c ≠ (u.toNat : Nat) := fun c a b e => hl c a b (by omega)
    have c31 := c3.1
    have c32 := c3.2.1
    by_cases e : u.toNat = 0
    · have e2 : u = 0 := by omega
      subst e2
      have z := wCu_e h c3 hl'
      have z2 := h.1
      have e3 : v = -1 := hv.trans h0
      rw [e3]
      have e4 : dp (0 : Int).toNat = 0 := z2
      refine ⟨Or.inl ⟨rfl, by omega, z, ?_, ?_⟩, by omega⟩
      · rw [← z]; omega
      · omega
    · have z := wCu_p h c3 hl' (by omega)
      have z9 : wCx O v.toNat = 1 := by rw [hv]; exact if_neg z.2.2.1
      refine ⟨Or.inr ⟨by omega, ?_, ?_, ?_⟩, by omega⟩
      · rw [hv]; omega
      · rw [hv]; exact z.1
      · rw [z9]
        have z5 := z.2.1
        rw [hv]
        omega
theorem wCv_e {O : OoS} {dp : Nat → Nat} {t : Int} {m f x : Nat} (hc : wCv O dp (-1) t m f x) : m = ocn O ∧ x = wLo O dp (ocn O) := by
  rcases hc with ⟨c1, c2, c3, c4, c5⟩ | ⟨c1, c2, c3, c4⟩
  · exact ⟨c3, c4⟩
  · omega
