/-! CUTS, the reference: airlines one by one -/
theorem cuAr_x {w : List CuR} {pc t : Nat} {net : Int} (h : cuAr w pc net t ≠ -1) : cuNx w pc net (cuM w pc net t) (cuAr w pc net t) := by
  by_cases hx : ∃ r, cuNx w pc net (cuM w pc net t) r
  · obtain ⟨r, hr⟩ := hx
    rw [cuAr_e hr]
    exact hr
  · exfalso
    apply h
    show cuNf w pc net (cuM w pc net t) = -1
    unfold cuNf
    rw [dif_neg hx]
theorem cuAt_l {w : List CuR} {pc : Nat} {net : Int} (hp : pc ≤ 60) : ∀ t, (∀ s, s < t → cuAr w pc net s ≠ -1) → t + zct (cuRp w net (cuM w pc net t)) pc ≤ pc
  | 0, _ => by have := zct_le (cuRp w net (cuM w pc net 0)) pc; omega
  | t + 1, h => by
    have ih := cuAt_l (net := net) hp t (fun s hs => h s (by omega))
    have hr := h t (Nat.lt_succ_self t)
    rw [cuM_s hr]
    rcases cuNx_b hp (cuAr_x hr) with z | z
    · exact absurd z hr
    · have := cuRp_j z.2
      omega
theorem cuAt_e {w : List CuR} {pc t : Nat} {net : Int} (hp : pc ≤ 60) (h : cuAr w pc net t = -1) (hl : ∀ s, s < t → cuAr w pc net s ≠ -1) : cuAn w pc net = t := cuAn_at h hl (by have := cuAt_l hp t hl; omega)
theorem cuAt_g {w : List CuR} {pc t : Nat} {net : Int} (hp : pc ≤ 60) (hl : ∀ s, s < t → cuAr w pc net s ≠ -1) : t ≤ cuAn w pc net := by
  unfold cuAn
  rcases zlow_sp (fun t => cuAr w pc net t = -1) (pc + 1) with ⟨h1, h2⟩ | ⟨r, h1, h2, h3, h4⟩
  · have := cuAt_l hp (pc + 1) (fun s hs => h2 s hs)
    omega
  · rw [h2]
    show t ≤ r
    rcases Nat.lt_or_ge r t with z | z
    · exact absurd h3 (hl r z)
    · exact z
theorem cuAn_12 {w : List CuR} {pc : Nat} {net : Int} (hG : cuG w) (hp : pc ≤ w.length) (h : 12 ≤ net) : cuAn w pc net = 0 := by
  have hx : cuNx w pc net (cuM w pc net 0) (-1) := Or.inl ⟨rfl, fun x y q => by
    have z := q.1
    have z2 := q.2.1
    have z3 := (hG x (by omega)).2.1
    omega⟩
  exact cuAn_at (cuAr_e hx) (fun s hs => absurd hs (Nat.not_lt_zero s)) (Nat.zero_le _)
theorem cuAc_n {w : List CuR} {pc : Nat} {net : Int} (hG : cuG w) (hp : pc ≤ w.length) (h : 0 ≤ net) : cuAc w pc net = cuAn w pc net := by
  unfold cuAc
  by_cases q : net < 12
  · rw [if_pos ⟨h, q⟩]
  · rw [if_neg (fun z => q z.2), cuAn_12 hG hp (by omega)]
theorem cuAe_f {w : List CuR} {pc : Nat} {net k wh : Int} (h : ¬ ((0 ≤ k ∧ k < cuAc w pc net) ∧ (wh = 0 ∨ wh = 1))) : cuAe w pc net k wh = -1 := if_neg h
theorem cuAe_0 {w : List CuR} {pc : Nat} {net k : Int} (h : 0 ≤ k ∧ k < cuAc w pc net) : cuAe w pc net k 0 = cuAr w pc net k.toNat / 60 := by
  unfold cuAe
  rw [if_pos ⟨h, Or.inl rfl⟩, if_pos rfl]
theorem cuAe_1 {w : List CuR} {pc : Nat} {net k : Int} (h : 0 ≤ k ∧ k < cuAc w pc net) : cuAe w pc net k 1 = cuAr w pc net k.toNat % 60 := by
  unfold cuAe
  rw [if_pos ⟨h, Or.inr rfl⟩, if_neg (by decide)]
theorem cuAc_z {w : List CuR} {pc : Nat} {net : Int} (h : ¬ (0 ≤ net ∧ net < 12)) : cuAc w pc net = 0 := if_neg h
/-- one step: the pair found is the airline; marks behind it -/
theorem cuAt_s {w : List CuR} {pc t : Nat} {net lo hi : Int} (hx : cuNx w pc net (cuM w pc net t) (60 * lo + hi)) (hb : 0 ≤ lo ∧ lo < hi) : cuAr w pc net t = 60 * lo + hi ∧ ∀ p, cuM w pc net (t + 1) p = cuJm (cuM w pc net t) (60 * lo + hi) p := by
  have e := cuAr_e hx
  refine ⟨e, fun p => ?_⟩
  rw [cuM_s (by rw [e]; omega), e]
theorem cuAr_b {w : List CuR} {pc t : Nat} {net : Int} (hp : pc ≤ 60) (h : cuAr w pc net t ≠ -1) : 0 ≤ cuAr w pc net t ∧ cuAr w pc net t < 3600 := by
  rcases cuNx_b hp (cuAr_x h) with z | z
  · exact absurd z h
  · exact z.1
