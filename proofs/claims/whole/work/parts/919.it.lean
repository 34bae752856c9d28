
/-! THE LAW'S RUN -/
theorem lw_st (M : XM) (h1 : (xz1 M xzI && xzr M xzR && xzl M xzL && xzs M && xzk M) = true) (h2 : ∀ e ∈ xfR ++ xfW, M.2.2.1 e.1 e.2.1 = some e.2.2) (h3 : ∀ e ∈ xfN, M.2.2.1 e.1 e.2 = none) (h4 : xn M = 302 ∧ xw M ≤ 480000) (L : Nat) (xs : Nat → Int32) : lwA lw0 (fun k j => ((xsc L xs M).1 k j).toInt) (fun k j => ((xsc L xs M).2.1 k j).toInt) (xsc L xs M).2.2.1 (xsc L xs M).2.2.2 ∧ lwB lw0 (fun k j => ((xsc L xs M).1 k j).toInt) (fun k j => ((xsc L xs M).2.1 k j).toInt) (xsc L xs M).2.2.1 (xsc L xs M).2.2.2 := by
  rw [Bool.and_eq_true, Bool.and_eq_true, Bool.and_eq_true, Bool.and_eq_true] at h1
  obtain ⟨⟨⟨⟨k1, k2⟩, k3⟩, k4⟩, k5⟩ := h1
  have fI : ∀ k j : Nat, k ≠ 0 → ((xsc L xs M).1 k j).toInt = (M.1 k j).toInt := fun k j h => by
    show (if k = 0 then xs j else M.1 k j).toInt = _
    rw [if_neg h]
  have c1 : ∀ e ∈ xzI, e.1 ≠ 0 := by decide +kernel
  have c2 : ∀ e ∈ xzR, e.1 ≠ 0 := by decide +kernel
  have g : ∀ (c j : Nat) (v : Int), (c, j, v) ∈ xzI → ((xsc L xs M).1 c j).toInt = v := fun c j v e => (fI c j (c1 _ e)).trans (xz1_g k1 e)
  have gr : ∀ c n j : Nat, (c, n) ∈ xzR → j < n → ((xsc L xs M).1 c j).toInt = 0 := fun c n j e hj => (fI c j (c2 _ e)).trans (xzr_g k2 e hj)
  have gl : ∀ c n j : Nat, (c, n) ∈ xzL → j < n → ((xsc L xs M).2.1 c j).toInt = 0 := fun c n j e hj => xzl_g k3 e hj
  have gs : zSt (fun k j => ((xsc L xs M).1 k j).toInt) (fun k j => ((xsc L xs M).2.1 k j).toInt) := fun c w1 w2 j hj => by
    have hc : c ∈ [1, 2, 3, 4, 5] := by
      rcases (show c = 1 ∨ c = 2 ∨ c = 3 ∨ c = 4 ∨ c = 5 by omega) with rfl | rfl | rfl | rfl | rfl <;> decide
    have w := xzs_g k4 hc hj
    exact ⟨(fI c j (by omega)).trans w.1, w.2⟩
  have gk : ∀ j : Nat, j < 64 → ((xsc L xs M).1 281 j).toInt = shK j := fun j hj => (fI 281 j (by decide)).trans (xzk_g k5 hj)
  exact ⟨lw0_A g gr gl gs h2, lw0_B g gr gl gk h2 h3 h4⟩
theorem pl_s00 (M : XM) {L : Nat} {xs : Nat → Int32} : (xsc L xs M).2.2.2.1 0 = (100, L) := rfl
theorem lw_sh (M : XM) (h : xn M = 302) (hM : ∀ k : Nat, xsh M k = xsh xmB k) (L : Nat) (xs : Nat → Int32) : zSh (xsc L xs M).2.2.2 := ⟨Nat.le_of_eq h.symm, fun k h1 h2 => by
  have e : (xsc L xs M).2.2.2.1 k = xsh M k := if_neg (by have := Nat.le_of_ble_eq_true h1; omega)
  exact e.trans (hM k)⟩
theorem pl_law {L : Nat} {xs : Nat → Int32} (hL : L ≤ 3072) : ∃ f mF, xgo (xrun xP f) 1501 (xP 22 0) 0 [(0, .ref 0)] [] (xm0 L xs) = some (some (.int 1), mF) ∧ xn mF ≤ 600000 ∧ xw mF ≤ 7302250 := by
  have hst := lw_st xmB xzA_k (xfR_g xmB (xfR ++ xfW) xfR_k) (xfN_g xmB xfN xfN_k) pl_nB L xs
  obtain ⟨cuts, A, ⟨n, hA⟩, hc, hz⟩ := law_gen2 (St := LwS) (PA := lwA) (PB := lwB) (sp := lwSp) (cal := lwCal) (J := lwI) (fun _ _ _ _ _ h => h.1) lw_hA lw_hB lw_kA lw_kB lw_c0 lw_c1 lw_room (N := L) hL (σ0 := lw0) (zok_of (xsc L xs xmB)) (pl_s00 xmB) (lw_sh xmB pl_nB.1 (fun _ => rfl) L xs) hst.1 hst.2 rfl
  have hz := zall_of hz
  have ht := (zT22_0 200).2
  have hloop : ∀ n, ∀ t, zhas cuts t = true → zKo 1500 (xP 22 0) (fun r _ _ _ S => r = some (zvi 1) ∧ S.2.1 ≤ 600000 ∧ S.2.2 ≤ 7302250) (xfind (xP 22 0).2.2.2.2.2 t).1 (xfind (xP 22 0).2.2.2.2.2 t).2 (A n t) := by
    refine zlt3_ind fun n ihn t ht' ls st I L R S lv hA' hz' hl => ?_
    have g := hz t ht' n ls st I L R S hz' hA'
    rw [← ht] at g
    exact zwp_ok (w := xP 22 0) (h := 200) (show 200 ≤ 1500 by decide) (fun t ht ls st I L R S lv q hz hl => by
      obtain ⟨n', q1, q2⟩ := q
      exact ihn n' q1 t ht ls st I L R S lv q2 hz hl) 100000 t _ _ _ _ _ _ _ g hz' hl
  refine pl_runG pl_cA pl_cB pl_nA (cuts := cuts) (K := fun t ls st I L R S => ∃ n', zlt3 n' n ∧ A n' t ls st I L R S) (Q := fun r _ _ _ S => r = some (zvi 1) ∧ S.2.1 ≤ 600000 ∧ S.2.2 ≤ 7302250) (fun t ht ls st I L R S lv q hz hl => by
    obtain ⟨n', q1, q2⟩ := q
    exact hloop n' t ht ls st I L R S lv q2 hz hl) (hz 18 hc n _ _ _ _ _ _ (zok_of (xsc L xs xmB)) hA) (fun r I L R S h => h)
