/-! mk -/
def zA18_5_4 : List (Int × Nat × Nat) := [(16, 100, 2), (16, 100, 3), (100, 100, 5), (400, 101, 6), (100, 103, 7), (50, 100, 9), (100, 101, 10), (60, 100, 12), (60, 100, 13), (120, 101, 14), (60, 100, 16), (60, 100, 17), (120, 101, 18), (60, 103, 19), (90, 100, 21), (64, 100, 23), (1000, 100, 24), (19520, 100, 25), (19520, 100, 26), (960, 100, 27), (960, 100, 28), (960, 103, 30)]
def T_N_18 : ZT := fun args I L R S Q => ∃ (k : Nat), args = [zvr k] ∧ (zSh S) ∧ (zRs R) ∧ (zNq k 18 33 I L R S) ∧ ∀ (I' : ZI) (L' : ZI) (R' : ZR) (S' : ZS), (zSg S S') → (zDy zT18 zF18 k R' S') → (zNJ k jd0 I' L') → (I' k 29 = 0) → (zRs R') → (S'.2.1 = S.2.1 + 22 ∧ S'.2.2 = S.2.2 + 44396) → (∀ c j : Nat, ¬ (k ≤ c ∧ c ≤ k + 22) → I' c j = I c j) → (∀ c j : Nat, ¬ (k ≤ c ∧ c ≤ k + 22) → L' c j = L c j) → (∀ c j : Nat, ¬ (k ≤ c ∧ c ≤ k + 22) → R' c j = R c j) → Q none I' L' R' S'
theorem sn_N_18 : ZSnd 1 18 5 T_N_18 := ZSnd.of (zT18_5 0) (by
  rintro args I L R S Q hz ⟨k, rfl, hS, hR, hnw, hQ⟩
  obtain ⟨q1, q2, q3, q4⟩ := id hnw
  refine And.intro rfl ?_
  refine zmB zA18_5_4 [zf_ret] [some (zvr k)] rfl rfl rfl (by decide) (by decide) (zNq_x hnw) (by have w := hnw.1; omega) (fun I4n L4n R4n S4n hw4 => ?_)
  have hl4 : zA18_5_4.length = 22 := rfl
  have fI4 : ∀ c j : Nat, ¬ (k + 1 ≤ c ∧ c ≤ k + 22) → I4n c j = I c j := fun c j q => (hw4.2.2.1 c j (by have w := hnw.1; omega)).1
  have fL4 : ∀ c j : Nat, ¬ (k + 1 ≤ c ∧ c ≤ k + 22) → L4n c j = L c j := fun c j q => (hw4.2.2.1 c j (by have w := hnw.1; omega)).2
  have fR4 : ∀ c j : Nat, ¬ c = k → ¬ (k + 1 ≤ c ∧ c ≤ k + 22) → R4n c j = R c j := fun c j q1 q2 => hw4.2.2.2.2.1 c j (by have w := hnw.1; omega) q1
  have hRR4n : zRs R4n := zRs_fr hR (fun c j q => fR4 c j (by have := Nat.blt_eq.mp q; omega) (by have := Nat.blt_eq.mp q; omega))
  have hg4 := hw4.1.2.2
  have hS := zSh_gr hS hg4
  have hz4 : S4n.2.1 = k + 23 := by have w := hw4.1.1; have w2 := hnw.1; omega
  have hx4 : xat S4n k 18 := zSg_x hg4 (zNq_x hnw)
  refine hQ _ _ _ _ hg4 (zNw_dy hw4 q1 (by omega) q2 rfl (by decide)) ?_ ((fI4 k 29 (by omega)).trans (q4 29).1) hRR4n ⟨hw4.1.1, hw4.1.2.1⟩ (fun c j h0 => ((fI4 c j (by omega)).trans rfl)) (fun c j h0 => ((fL4 c j (by omega)).trans rfl)) (fun c j h0 => ((fR4 c j (by omega) (by omega)).trans rfl))
  · have z0 : ∀ j : Nat, I4n k j = 0 := fun j => (fI4 k j (by omega)).trans (q4 j).1
    have z1 : ∀ c j : Nat, k + 1 ≤ c → c ≤ k + 22 → I4n c j = 0 := fun c j h1 h2 => (hw4.2.2.2.1 c j (by omega) (by omega)).1
    exact ⟨⟨z0 1, z0 4, z0 8, z0 11, z0 15, z0 20, z0 22⟩, fun t h => absurd h (Nat.not_lt_zero t), fun t h => absurd h (Nat.not_lt_zero t), fun w _ => z1 _ _ (by omega) (by omega), fun t h => absurd h (Nat.not_lt_zero t), fun t h => absurd h (Nat.not_lt_zero t), fun t h => absurd h (Nat.not_lt_zero t), fun w _ => z1 _ _ (by omega) (by omega), fun t h => absurd h (Nat.not_lt_zero t), fun w _ => z1 _ _ (by omega) (by omega)⟩)
