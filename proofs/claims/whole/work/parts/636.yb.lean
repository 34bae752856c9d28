/-! yb -/
def zA16_9_4 : List (Int × Nat × Nat) := [(2, 100, 1), (20, 101, 2), (20, 103, 3), (2, 100, 4), (120, 100, 5), (120, 101, 6), (120, 101, 7), (120, 101, 8), (120, 101, 9), (120, 100, 10), (120, 100, 11), (120, 103, 12), (60, 100, 14), (60, 100, 15), (2048, 101, 16), (3000, 100, 18), (2000, 100, 20), (8, 100, 26), (8, 100, 27), (2400, 100, 28), (2600, 100, 30)]
def T_N_16 : ZT := fun args I L R S Q => ∃ (k : Nat), args = [zvr k] ∧ (zSh S) ∧ (zRs R) ∧ (zNq k 16 39 I L R S) ∧ ∀ (I' : ZI) (L' : ZI) (R' : ZR) (S' : ZS), (zSg S S') → (zDy zT16 zF16 k R' S') → ((∀ j : Nat, I' k j = 0) ∧ (∀ c j : Nat, k + 1 ≤ c → c ≤ k + 21 → I' c j = 0)) → (zRs R') → (S'.2.1 = S.2.1 + 21 ∧ S'.2.2 = S.2.2 + 13188) → (∀ c j : Nat, ¬ (k ≤ c ∧ c ≤ k + 21) → I' c j = I c j) → (∀ c j : Nat, ¬ (k ≤ c ∧ c ≤ k + 21) → L' c j = L c j) → (∀ c j : Nat, ¬ (k ≤ c ∧ c ≤ k + 21) → R' c j = R c j) → Q none I' L' R' S'
theorem sn_N_16 : ZSnd 1 16 9 T_N_16 := ZSnd.of (zT16_9 0) (by
  rintro args I L R S Q hz ⟨k, rfl, hS, hR, hnw, hQ⟩
  obtain ⟨q1, q2, q3, q4⟩ := id hnw
  refine And.intro rfl ?_
  refine zmB zA16_9_4 [zf_ret] [some (zvr k)] rfl rfl rfl (by decide) (by decide) (zNq_x hnw) (by have w := hnw.1; omega) (fun I4n L4n R4n S4n hw4 => ?_)
  have hl4 : zA16_9_4.length = 21 := rfl
  have fI4 : ∀ c j : Nat, ¬ (k + 1 ≤ c ∧ c ≤ k + 21) → I4n c j = I c j := fun c j q => (hw4.2.2.1 c j (by have w := hnw.1; omega)).1
  have fL4 : ∀ c j : Nat, ¬ (k + 1 ≤ c ∧ c ≤ k + 21) → L4n c j = L c j := fun c j q => (hw4.2.2.1 c j (by have w := hnw.1; omega)).2
  have fR4 : ∀ c j : Nat, ¬ c = k → ¬ (k + 1 ≤ c ∧ c ≤ k + 21) → R4n c j = R c j := fun c j q1 q2 => hw4.2.2.2.2.1 c j (by have w := hnw.1; omega) q1
  have hRR4n : zRs R4n := zRs_fr hR (fun c j q => fR4 c j (by have := Nat.blt_eq.mp q; omega) (by have := Nat.blt_eq.mp q; omega))
  have hg4 := hw4.1.2.2
  have hS := zSh_gr hS hg4
  have hz4 : S4n.2.1 = k + 22 := by have w := hw4.1.1; have w2 := hnw.1; omega
  have hx4 : xat S4n k 16 := zSg_x hg4 (zNq_x hnw)
  refine hQ _ _ _ _ hg4 (zNw_dy hw4 q1 (by omega) q2 rfl (by decide)) ⟨fun j => (fI4 k j (by omega)).trans (q4 j).1, fun c j h1 h2 => (hw4.2.2.2.1 c j (by omega) (by omega)).1⟩ hRR4n ⟨hw4.1.1, hw4.1.2.1⟩ (fun c j h0 => ((fI4 c j (by omega)).trans rfl)) (fun c j h0 => ((fL4 c j (by omega)).trans rfl)) (fun c j h0 => ((fR4 c j (by omega) (by omega)).trans rfl)))
