
/-! way, blocking: the class -/
theorem bWp_r {s : BdS} {n k w : Int} (hg : bGd s) : r32 (bWp s n k w) := by
  unfold bWp
  split
  · rename_i h
    have hK : bW s * bH s * bD s ≤ 1024 := hg.1.2.2.2
    have h1 := ((hg.2.2.2.2.1 n.toNat (by omega)).2.2.2.2.2.2.1 k.toNat (by omega)).1
    have h2 : bwy s n.toNat k.toNat / bW s ≤ bwy s n.toNat k.toNat := Nat.div_le_self _ _
    have h3 : bwy s n.toNat k.toNat / bW s / bH s ≤ bwy s n.toNat k.toNat / bW s := Nat.div_le_self _ _
    have h4 : bwy s n.toNat k.toNat % bW s ≤ bwy s n.toNat k.toNat := Nat.mod_le _ _
    have h5 : bwy s n.toNat k.toNat / bW s % bH s ≤ bwy s n.toNat k.toNat / bW s := Nat.mod_le _ _
    have h6 : ∀ x : Nat, x ≤ 1024 → r32 ((x : Nat) : Int) := fun x hx => ⟨by omega, by omega⟩
    have h7 : bwy s n.toNat k.toNat ≤ 1024 := Nat.le_trans (Nat.le_of_lt h1) hK
    split
    · exact h6 _ (Nat.le_trans h3 (Nat.le_trans h2 h7))
    · split
      · exact h6 _ (Nat.le_trans h4 h7)
      · split
        · exact h6 _ (Nat.le_trans h5 (Nat.le_trans h2 h7))
        · exact zRb rfl
  · exact zRb rfl
theorem lwA15 : lwCA 15 lf15 := ZSnd.alt (sn_Z_waz.up (by decide)) (sn_A_mway.up (by decide)) (by
  rintro args I L R S Q hz ⟨σ, a1, a2, a3, a4, a5, he, hr, hS, hc, hP, hQ⟩
  have hB0 : aB (lwBo σ) I L := hP.2.2.2.2.1
  have hI : iB (lwBo σ) := hP.1.2.2.1
  by_cases hb : (lwBo σ).1 = 0
  · rw [show lf15 σ a1 a2 a3 a4 a5 = (σ, -1) from congrArg (Prod.mk σ) (if_pos hb)] at hQ
    exact Or.inl ⟨a1, a2, a3, he, hS, hP.2.1.1, hB0.2.2.2 hb, ⟨hr.1, hr.2.1, hr.2.2.1⟩, hQ _ _ _ _ hP zfA_0 (zRb rfl)⟩
  · rw [show lf15 σ a1 a2 a3 a4 a5 = (σ, bWp σ.2.2.1.2.1 a1 a2 a3) from congrArg (Prod.mk σ) (if_neg hb)] at hQ
    refine Or.inr ⟨_, _, a1, a2, a3, he, hS, hP.2.1.1, hB0.1 hb, (hI.2.2 hb).1.1, ⟨hr.1, hr.2.1, hr.2.2.1⟩, ?_⟩
    rintro v rfl
    exact hQ _ _ _ _ hP zfA_0 (bWp_r (hI.2.2 hb).1.1))
theorem bNth_r {v : Int} : ∀ (n o : Nat) (k : Int), n + o ≤ 100 → -1 ≤ bNth v n o k ∧ bNth v n o k ≤ 100
  | 0, o, k, _ => ⟨Int.le_refl _, (show (-1 : Int) ≤ 100 by decide)⟩
  | n + 1, o, k, h => by
    have w1 := bNth_r (v := v) n (o + 1) (k - 1) (by omega)
    have w2 := bNth_r (v := v) n (o + 1) k (by omega)
    show -1 ≤ zite (bBit v o) (if k = 0 then (o : Int) else bNth v n (o + 1) (k - 1)) (bNth v n (o + 1) k) ∧ zite (bBit v o) (if k = 0 then (o : Int) else bNth v n (o + 1) (k - 1)) (bNth v n (o + 1) k) ≤ 100
    by_cases e : bBit v o
    · rw [zite_t e]
      split
      · omega
      · exact w1
    · rw [zite_f e]; exact w2
theorem bBlk_r {s : BdS} {n k : Int} : r32 (bBlk s n k) := by
  unfold bBlk
  split
  · have w := bNth_r (v := bN s n.toNat 5) 12 0 k (by decide)
    exact ⟨by omega, by omega⟩
  · exact zRb rfl
theorem lwA17 : lwCA 17 lf17 := ZSnd.alt (sn_Z_blz.up (by decide)) (sn_Z_blk.up (by decide)) (by
  rintro args I L R S Q hz ⟨σ, a1, a2, a3, a4, a5, he, hr, hS, hc, hP, hQ⟩
  have hB0 : aB (lwBo σ) I L := hP.2.2.2.2.1
  by_cases hb : (lwBo σ).1 = 0
  · rw [show lf17 σ a1 a2 a3 a4 a5 = (σ, -1) from congrArg (Prod.mk σ) (if_pos hb)] at hQ
    exact Or.inl ⟨a1, a2, he, hS, hP.2.1.1, hB0.2.2.2 hb, ⟨hr.1, hr.2.1⟩, hQ _ _ _ _ hP zfA_0 (zRb rfl)⟩
  · refine Or.inr ⟨_, _, a1, a2, he, hS, hP.2.1.1, hB0.1 hb, ⟨hr.1, hr.2.1⟩, ?_⟩
    rintro v rfl
    rw [show lf17 σ a1 a2 a3 a4 a5 = (σ, bBlk (lwBo σ).2.1 a1 a2) from congrArg (Prod.mk σ) (if_neg hb)] at hQ
    exact hQ _ _ _ _ hP zfA_0 bBlk_r)
/-- route -/
noncomputable def lf14y (σ : LwS) (r : Int) : LwS × Int := (lwb σ (if 0 ≤ bRtV (lwBo σ).2.1 r then 0 else -(bRtV (lwBo σ).2.1 r)) ((lwBo σ).1, bRtS (lwBo σ).2.1 r, (lwBo σ).2.2.1, (lwBo σ).2.2.2 + 1), if 0 ≤ bRtV (lwBo σ).2.1 r then bRtV (lwBo σ).2.1 r else -1)
noncomputable def lf14 : ZSpf := fun σ r _ _ _ _ => if (lwBo σ).1 = 0 then (lwd σ 3, -1) else lf14y σ r
theorem bOpn_b (s : BdS) : ∀ n, bOpn s n ≤ n
  | 0 => Nat.le_refl _
  | n + 1 => by
    have w := bOpn_b s n
    unfold bOpn
    split <;> omega
theorem bRtV_b {s : BdS} {r : Int} (h : bGd (bRtS s r)) : -2 ≤ bRtV s r ∧ bRtV s r ≤ 12 ∧ (bRtV s r < 0 → bRtV s r = -2) := by
  unfold bRtV
  unfold bRtS at h
  split
  · rename_i e
    rw [if_pos e] at h
    have w := bOpn_b (bRu r.toNat s) (bnn (bRu r.toNat s))
    have w2 := h.2.1.2
    omega
  · omega
theorem bRtV_d {s : BdS} {r : Int} (h : bGd (bRtS s r)) : 0 ≤ (if 0 ≤ bRtV s r then (0 : Int) else -(bRtV s r)) ∧ (if 0 ≤ bRtV s r then (0 : Int) else -(bRtV s r)) ≤ 5 := by
  have w := bRtV_b h
  split <;> omega
theorem lwB14 : lwCB 14 lf14 := ZSnd.alt (sn_M_route0.up (by decide)) (sn_M_route.up (by decide)) (by
  rintro args I L R S Q hz ⟨σ, a1, a2, a3, a4, a5, he, hr, hS, hc, hP, hQ⟩
  have hB : bB (lwBo σ) I L R S := hP.2.2.2.2.1
  have hI : iB (lwBo σ) := hP.1.2.2.1
  have hc' : 2 * (lwBo σ).2.2.2 ≤ 3078 := hc.1
  by_cases hb : (lwBo σ).1 = 0
  · rw [show lf14 σ a1 a2 a3 a4 a5 = (lwd σ 3, -1) from if_pos hb] at hQ
    refine Or.inl ⟨a1, he, hS, hP.2.1.1, (hB.2.1 hb).1, ?_⟩
    intro I' h3 hf
    exact hQ _ _ _ _ (lwB_d hP (by decide) h3 hf) (zfB_I (fun c j w => hf c j (by omega)))
  · rw [show lf14 σ a1 a2 a3 a4 a5 = lf14y σ a1 from if_neg hb] at hQ
    obtain ⟨g, q, G, K, ⟨g8, g9⟩, g10, g11⟩ := hB.2.2 hb
    obtain ⟨i1, i2, i3, i4⟩ := hI.2.2 hb
    refine Or.inr ⟨g, (lwBo σ).2.1, a1, _, _, he, hS, hP.2.1.1, G.1, G.2.1, G.2.2, g8, i1.1, hr.1, i3, i4, by omega, by omega, ?_⟩
    rintro v I' L' rfl h3 hB2 hgd hf hl
    have f9 : ∀ c j : Nat, ¬ (c = 165 ∧ j = 0) → ¬ (g ≤ c ∧ c ≤ g + 18) → I' c j = I c j := fun c j w1 w3 => hf c j (by omega) (by omega) (by omega) (by omega) (by omega) (by omega) (by omega) (by omega) (by omega) (by omega) (by omega)
    have l9 : ∀ c j : Nat, ¬ (g ≤ c ∧ c ≤ g + 18) → L' c j = L c j := fun c j w3 => hl c j (by omega) (by omega) (by omega) (by omega)
    have k1 := K.2.2.1
    have k2 := G.2.2
    have w := (g5P_RtS (r := a1) (show g5P (lwBo σ).2.1 from ⟨i1, _, _, i3, i4⟩)).2
    refine hQ _ _ _ _ (lwB_bb (y := ((lwBo σ).1, bRtS (lwBo σ).2.1 a1, (lwBo σ).2.2.1, (lwBo σ).2.2.2 + 1)) hP (bRtV_d hgd.1) (iB_rt hI hb hgd.2) rfl rfl hb G K g10 g11 hB2 ?_ h3 (fun c j w1 w2 w3 w4 _ => f9 c j (by omega) w3) (fun c j w => l9 c j w)) (zfB_IL (fun c j w => f9 c j (by omega) (by omega)) (fun c j w => l9 c j (by omega)))
    exact zPB_kq (zPB_fr g9 (fun c j w => f9 c j (by omega) (by omega))) w)
theorem lwA14 : lwCA 14 lf14 := ZSnd.alt (sn_A_mroute0.up (by decide)) (sn_A_mroute.up (by decide)) (by
  rintro args I L R S Q hz ⟨σ, a1, a2, a3, a4, a5, he, hr, hS, hc, hP, hQ⟩
  have hB0 : aB (lwBo σ) I L := hP.2.2.2.2.1
  have hI : iB (lwBo σ) := hP.1.2.2.1
  have hc' : 2 * (lwBo σ).2.2.2 ≤ 3078 := hc
  by_cases hb : (lwBo σ).1 = 0
  · rw [show lf14 σ a1 a2 a3 a4 a5 = (lwd σ 3, -1) from if_pos hb] at hQ
    refine Or.inl ⟨a1, he, hS, hP.2.1.1, by rw [hB0.2.1, hb]; rfl, ?_⟩
    intro I' h3 hf
    exact hQ _ _ _ _ (lwA_d hP (by decide) h3 hf) (zfA_I (fun c j w => hf c j (by omega))) (zRb rfl)
  · have hB := hB0.1 hb
    rw [show lf14 σ a1 a2 a3 a4 a5 = lf14y σ a1 from if_neg hb] at hQ
    obtain ⟨i1, i2, i3, i4⟩ := hI.2.2 hb
    refine Or.inr ⟨(lwBo σ).1, (lwBo σ).2.1, a1, _, _, he, hS, hP.2.1.1, hB, ⟨by omega, hI.1⟩, hr.1, i1.1, i3, i4, by omega, by omega, ?_⟩
    rintro v I' L' rfl h3 hB2 hgd hf hl
    have wb := bRtV_b hgd.1
    refine hQ _ _ _ _ (lwA_b (y := ((lwBo σ).1, bRtS (lwBo σ).2.1 a1, (lwBo σ).2.2.1, (lwBo σ).2.2.2 + 1)) hP (bRtV_d hgd.1) (iB_rt hI hb hgd.2) h3 (aB_y hb hB2) (fun c j w1 w2 => hf c j (by omega) (by omega) (by omega) (by omega) (by omega) (by omega) (by omega) (by omega) (by omega) (by omega) (by omega)) (fun c j w => hl c j (by omega) (by omega))) (zfA_IL (fun c j w => hf c j (by omega) (by omega) (by omega) (by omega) (by omega) (by omega) (by omega) (by omega) (by omega) (by omega) (by omega)) (fun c j w => hl c j (by omega) (by omega))) (show r32 (if 0 ≤ bRtV (lwBo σ).2.1 a1 then bRtV (lwBo σ).2.1 a1 else -1) from ?_)
    split
    · exact ⟨by omega, by omega⟩
    · exact zRb rfl)
