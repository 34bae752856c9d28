/-! yc -/
def zA14_9_4 : List (Int × Nat × Nat) := [(60, 100, 3), (60, 100, 4), (60, 100, 5), (60, 100, 6), (60, 100, 7), (480, 101, 8), (480, 101, 9), (60, 101, 10), (30, 100, 12), (30, 100, 13), (30, 100, 14), (30, 101, 15)]
def zA14_9_108 : List (Int × Nat × Nat) := [(6300, 100, 18), (6300, 100, 20), (2100, 101, 21), (2100, 101, 22), (180, 100, 24)]
def T_N_14 : ZT := fun args I L R S Q => ∃ (k : Nat) (d : Int), args = [zvr k, zvi d] ∧ (zSh S) ∧ (zRs R) ∧ (zNq k 14 25 I L R S) ∧ (1 ≤ d ∧ d ≤ 16) ∧ ∀ (I' : ZI) (L' : ZI) (R' : ZR) (S' : ZS), (zSg S S') → (zDy zT14 zF14 k R' S') → (I' k 1 = d ∧ I' k 2 = 0 ∧ I' k 11 = 0 ∧ I' k 23 = 0) → (∀ c j : Nat, k + 1 ≤ c → c ≤ k + 17 → I' c j = 0 ∧ L' c j = 0) → (zRs R') → (S'.2.1 = S.2.1 + 17 ∧ S'.2.2 = S.2.2 + 18420) → (∀ c j : Nat, ¬ (k ≤ c ∧ c ≤ k + 17) → I' c j = I c j) → (∀ c j : Nat, ¬ (k ≤ c ∧ c ≤ k + 17) → L' c j = L c j) → (∀ c j : Nat, ¬ (k ≤ c ∧ c ≤ k + 17) → R' c j = R c j) → Q none I' L' R' S'
theorem sn_N_14 : ZSnd 1 14 9 T_N_14 := ZSnd.of (zT14_9 0) (by
  rintro args I L R S Q hz ⟨k, d, rfl, hS, hR, hnw, hd1, hQ⟩
  obtain ⟨q1, q2, q3, q4⟩ := id hnw
  refine And.intro rfl ?_
  refine zmB zA14_9_4 [zf_ald 0, zf_ic 8, zf_putI 14 16, zf_ald 0, zf_ic 6300, zf_newA 100, zf_putR 14 18, zf_ald 0, zf_ic 6300, zf_newA 100, zf_putR 14 20, zf_ald 0, zf_ic 2100, zf_newA 101, zf_putR 14 21, zf_ald 0, zf_ic 2100, zf_newA 101, zf_putR 14 22, zf_ald 0, zf_ic 180, zf_newA 100, zf_putR 14 24, zf_ald 0, zf_ild 1, zf_ic 1, zf_ic2 .ge 163, zf_ic 1, zf_go 175] [some (zvr k), some (zvi d)] rfl rfl rfl (by decide) (by decide) (zNq_x hnw) (by have w := hnw.1; omega) (fun I4n L4n R4n S4n hw4 => ?_)
  have hl4 : zA14_9_4.length = 12 := rfl
  have fI4 : ∀ c j : Nat, ¬ (k + 1 ≤ c ∧ c ≤ k + 12) → I4n c j = I c j := fun c j q => (hw4.2.2.1 c j (by have w := hnw.1; omega)).1
  have fL4 : ∀ c j : Nat, ¬ (k + 1 ≤ c ∧ c ≤ k + 12) → L4n c j = L c j := fun c j q => (hw4.2.2.1 c j (by have w := hnw.1; omega)).2
  have fR4 : ∀ c j : Nat, ¬ c = k → ¬ (k + 1 ≤ c ∧ c ≤ k + 12) → R4n c j = R c j := fun c j q1 q2 => hw4.2.2.2.2.1 c j (by have w := hnw.1; omega) q1
  have hRR4n : zRs R4n := zRs_fr hR (fun c j q => fR4 c j (by have := Nat.blt_eq.mp q; omega) (by have := Nat.blt_eq.mp q; omega))
  have hg4 := hw4.1.2.2
  have hS := zSh_gr hS hg4
  have hz4 : S4n.2.1 = k + 13 := by have w := hw4.1.1; have w2 := hnw.1; omega
  have hx4 : xat S4n k 14 := zSg_x hg4 (zNq_x hnw)
  refine And.intro hx4 ⟨_, (zWi (zRb rfl)), ?_⟩
  refine zmA_at (ls := [some (zvr k), some (zvi d)]) (c := 14) zA14_9_108 [zf_ald 0, zf_ild 1, zf_ic 1, zf_ic2 .ge 163, zf_ic 1, zf_go 175] (by rfl) (by decide) (by decide) hx4 (by have w := hz4; omega) (fun I108n L108n R108n S108n hw108 => ?_)
  have hl108 : zA14_9_108.length = 5 := rfl
  have fI108 : ∀ c j : Nat, ¬ (k + 13 ≤ c ∧ c ≤ k + 17) → I108n c j = (xu I4n k 16 8) c j := fun c j q => (hw108.2.2.1 c j (by have w := hz4; omega)).1
  have fL108 : ∀ c j : Nat, ¬ (k + 13 ≤ c ∧ c ≤ k + 17) → L108n c j = L4n c j := fun c j q => (hw108.2.2.1 c j (by have w := hz4; omega)).2
  have fR108 : ∀ c j : Nat, ¬ c = k → ¬ (k + 13 ≤ c ∧ c ≤ k + 17) → R108n c j = R4n c j := fun c j q1 q2 => hw108.2.2.2.2.1 c j (by have w := hz4; omega) q1
  have hRR108n : zRs R108n := zRs_fr hRR4n (fun c j q => fR108 c j (by have := Nat.blt_eq.mp q; omega) (by have := Nat.blt_eq.mp q; omega))
  have hg108 := hw108.1.2.2
  have hS := zSh_gr hS hg108
  have hz108 : S108n.2.1 = k + 18 := by have w := hw108.1.1; have w2 := hz4; omega
  have hx108 : xat S108n k 14 := zSg_x hg108 hx4
  refine And.intro ⟨(by omega), (zRb rfl)⟩ ⟨fun h156 => ?_, (fun h156 => False.elim (by omega))⟩
  refine And.intro ⟨(by omega), (zRb rfl)⟩ ⟨fun h166 => ?_, (fun h166 => False.elim (by omega))⟩
  refine And.intro hx108 ⟨_, (zWi (by omega)), ?_⟩
  refine hQ _ _ _ _ (zSg_t hg4 hg108) (zNw_dy (zNw_app hw4 hw108 (by decide) (fun d j h1 h2 => ⟨zxu (by omega) rfl, rfl⟩)) q1 (by omega) q2 rfl (by decide)) ⟨zxe, zxs (by decide) ((fI108 k 2 (by omega)).trans (zxs (by decide) ((fI4 k 2 (by omega)).trans (q4 2).1))), zxs (by decide) ((fI108 k 11 (by omega)).trans (zxs (by decide) ((fI4 k 11 (by omega)).trans (q4 11).1))), zxs (by decide) ((fI108 k 23 (by omega)).trans (zxs (by decide) ((fI4 k 23 (by omega)).trans (q4 23).1)))⟩ ?_ hRR108n (by have w1 := hw4.1; have w2 := hw108.1; have e1 : zsum zA14_9_4 = 1440 := rfl; have e2 : zsum zA14_9_108 = 16980 := rfl; have w3 := w1.2.1; have w4 := w2.2.1; omega) (fun c j h0 => (zxcj (by omega) ((fI108 c j (by omega)).trans (zxcj (by omega) ((fI4 c j (by omega)).trans rfl))))) (fun c j h0 => ((fL108 c j (by omega)).trans ((fL4 c j (by omega)).trans rfl))) (fun c j h0 => ((fR108 c j (by omega) (by omega)).trans ((fR4 c j (by omega) (by omega)).trans rfl)))
  · intro c j h1 h2
    have w4 := hw4.1.1
    by_cases z : c ≤ k + 12
    · have y := hw4.2.2.2.1 c j (by omega) (by omega)
      exact ⟨zxu (by omega) ((fI108 c j (by omega)).trans (zxu (by omega) y.1)), (fL108 c j (by omega)).trans y.2⟩
    · have y := hw108.2.2.2.1 c j (by omega) (by omega)
      exact ⟨zxu (by omega) y.1, y.2⟩)
