/-! ys -/
def T_X_rdl : ZT := fun args I L R S Q => ∃ (k : Nat) (w : List CuR) (l : Int) (s : Nat) (n : Nat), args = [zvr k] ∧ (zSh S) ∧ (zRs R) ∧ (zDy zT16 zF16 k R S) ∧ (zDL k w l s n I L) ∧ (0 ≤ l ∧ l ≤ 6) ∧ (cuHc w ≤ 20) ∧ (s ≤ 5) ∧ ∀ (sx : Nat) (nx : Nat) (I' : ZI) (L' : ZI), (zDL k w l sx nx I' L') → (s < sx ∨ (sx = s ∧ n < nx)) → (∀ j : Nat, I' (k + 3) j = I (k + 3) j ∨ I' (k + 3) j = 1) → (∀ c j : Nat, ¬ (k ≤ c ∧ c ≤ k + 21) → I' c j = I c j) → (∀ c j : Nat, ¬ (k ≤ c ∧ c ≤ k + 21) → L' c j = L c j) → Q none I' L' R S
theorem sn_X_rdl : ZSnd 7 16 25 T_X_rdl := by
  rintro d hd args I L R S Q hz ⟨k, w, l, s, n, rfl, hS, hR, hD, hRL, hl, h20, hs, hQ⟩
  obtain ⟨⟨⟨hw, hT⟩, ⟨hs6, hn⟩, hn0, hn6⟩, ⟨hp, hst⟩, ⟨h35, h38⟩, ⟨h1, h3⟩, h4, hh⟩ := id hRL
  obtain ⟨⟨A1, A2, A3, A4, A5⟩, A6⟩ := dTx_h (w := w) (l := l)
  have hb : dBs l = 5 + (dNu l).length + 1 + (dNu (l + 1)).length := rfl
  rw [← hb] at A5 A6
  have ht8 := dTx_8 (w := w) (l := l) h20
  have z0 := dNu_0l.1
  have z3 := dNu_0l.2
  have e0 : dPs w l 0 = (dHd w l).length := rfl
  rcases (show s = 0 ∨ s = 1 ∨ s = 2 ∨ s = 3 ∨ s = 4 ∨ s = 5 by omega) with e | e | e | e | e | e
  · subst e
    refine sn_X_l0 d hd _ I L R S Q hz ⟨k, dTx w l, 0, rfl, hS, hR, hD, hT, hp, ht8, hw, hst, dAt_j A1 dWd_L.1 (j := 0) (by decide) rfl, dAt_j A1 dWd_L.1 (j := 1) (by decide) rfl, dAt_j A1 dWd_L.1 (j := 2) (by decide) rfl, dAt_j A1 dWd_L.1 (j := 3) (by decide) rfl, fun I' f1 f2 fr => hQ 1 n I' L ?_ (Or.inl (by decide)) (fun j => Or.inl (fr _ _ (by omega) (by omega) (by omega) (by omega))) (fun c j g => fr c j (by omega) (by omega) (by omega) (by omega)) (fun _ _ _ => rfl)⟩
    refine ⟨⟨⟨(fr k 23 (by omega) (by omega) (by omega) (by omega)).trans hw, zTd_fr hT (fun c j g => fr c j (by omega) (by omega) (by omega) (by omega))⟩, ⟨by decide, hn⟩, fun _ => hn0 (by decide), fun g => absurd g (by decide)⟩, ⟨f1, f2.1⟩, ⟨fun g => absurd g (by decide), fun g => absurd g (by decide)⟩, ⟨(fr _ _ (by omega) (by omega) (by omega) (by omega)).trans h1, fun g => absurd g (by decide)⟩, (fr _ _ (by omega) (by omega) (by omega) (by omega)).trans h4, fun j hj => absurd (hn0 (by decide)) (by omega)⟩
  · subst e
    refine sn_X_l1 d hd _ I L R S Q hz ⟨k, dTx w l, 4, l, rfl, hS, hR, hD, hT, hp, ht8, hw, hst, dAt_j A1 dWd_L.1 (j := 4) (by decide) rfl, h1, hl, A2, dAt_j A3 dWd_L.2.1 (j := 0) (by decide) rfl, A4, dAt_j A5 dWd_L.2.2.1 (j := 0) (by decide) rfl, fun I' f1 f2 fr => hQ 2 n I' L ?_ (Or.inl (by decide)) (fun j => Or.inl (fr _ _ (by omega) (by omega) (by omega) (by omega) (by omega) (by omega))) (fun c j g => fr c j (by omega) (by omega) (by omega) (by omega) (by omega) (by omega)) (fun _ _ _ => rfl)⟩
    refine ⟨⟨⟨(fr k 23 (by omega) (by omega) (by omega) (by omega) (by omega) (by omega)).trans hw, zTd_fr hT (fun c j g => fr c j (by omega) (by omega) (by omega) (by omega) (by omega) (by omega))⟩, ⟨by decide, hn⟩, fun _ => hn0 (by decide), fun g => absurd g (by decide)⟩, ⟨f1, (fr _ _ (by omega) (by omega) (by omega) (by omega) (by omega) (by omega)).trans hst⟩, ⟨fun _ => f2.2, fun g => absurd g (by decide)⟩, ⟨(fr _ _ (by omega) (by omega) (by omega) (by omega) (by omega) (by omega)).trans h1, fun g => absurd g (by decide)⟩, (fr _ _ (by omega) (by omega) (by omega) (by omega) (by omega) (by omega)).trans h4, fun j hj => absurd (hn0 (by decide)) (by omega)⟩
  · subst e
    have B1 : dAt (dTx w l) (dBs l + 1 + 1) (dNu 0) := dAt_s (a := [10, 84]) (by rw [← dWd_s.1]; exact A5)
    have B2 : dAt (dTx w l) (dBs l + 1 + 1 + (dNu 0).length + 1) (dNu 300) := by
      have z := dAt_s (a := [10, 84, 48, 67]) (x := dNu 300) (by rw [← dWd_s.2.1]; exact A5)
      rw [z0]
      exact z
    have C1 : dBs l + 1 + 1 + (dNu 0).length < (dTx w l).length ∧ wAt (dTx w l) (dBs l + 1 + 1 + (dNu 0).length) = 67 := by
      rw [z0]
      exact dAt_j A5 dWd_L.2.2.1 (j := 3) (by decide) rfl
    have C2 : dBs l + 1 + 1 + (dNu 0).length + 1 + (dNu 300).length < (dTx w l).length ∧ wAt (dTx w l) (dBs l + 1 + 1 + (dNu 0).length + 1 + (dNu 300).length) = 80 := by
      rw [z0, z3]
      exact dAt_j A5 dWd_L.2.2.1 (j := 7) (by decide) rfl
    have C3 : dBs l + 1 + 1 + (dNu 0).length + 1 + (dNu 300).length + 1 < (dTx w l).length ∧ wAt (dTx w l) (dBs l + 1 + 1 + (dNu 0).length + 1 + (dNu 300).length + 1) = 10 := by
      rw [z0, z3]
      exact dAt_j A5 dWd_L.2.2.1 (j := 8) (by decide) rfl
    refine sn_X_l2 d hd _ I L R S Q hz ⟨k, dTx w l, dBs l + 1, rfl, hS, hR, hD, hT, hp, ht8, hw, hst, dAt_j A5 dWd_L.2.2.1 (j := 1) (by decide) rfl, (h35 (by decide)).1, h1, B1, C1, B2, C2, C3, fun I' L' f1 f2 fr frL => hQ 3 n I' L' ?_ (Or.inl (by decide)) (fun j => by by_cases g : j = 10; (rw [g]; exact Or.inr f2.2.2.2); exact Or.inl (fr _ _ (by omega) (by omega) (by omega) (by omega) (by omega))) (fun c j g => fr c j (by omega) (by omega) (by omega) (by omega) (by omega)) (fun c j g => frL c j (by omega))⟩
    refine ⟨⟨⟨(fr k 23 (by omega) (by omega) (by omega) (by omega) (by omega)).trans hw, zTd_fr hT (fun c j g => fr c j (by omega) (by omega) (by omega) (by omega) (by omega))⟩, ⟨by decide, hn⟩, fun _ => hn0 (by decide), fun g => absurd g (by decide)⟩, ⟨f1.trans ?_, (fr _ _ (by omega) (by omega) (by omega) (by omega) (by omega)).trans hst⟩, ⟨fun _ => ⟨(fr _ _ (by omega) (by omega) (by omega) (by omega) (by omega)).trans (h35 (by decide)).1, (fr _ _ (by omega) (by omega) (by omega) (by omega) (by omega)).trans (h35 (by decide)).2.1, (fr _ _ (by omega) (by omega) (by omega) (by omega) (by omega)).trans (h35 (by decide)).2.2⟩, fun g => absurd g (by decide)⟩, ⟨f2.2.1, fun _ => ⟨f2.2.2.1, f2.2.2.2⟩⟩, (fr _ _ (by omega) (by omega) (by omega) (by omega) (by omega)).trans h4, fun j hj => absurd (hn0 (by decide)) (by omega)⟩
    rw [z0, z3]
    rfl
  · subst e
    refine sn_X_l3 d hd _ I L R S Q hz ⟨k, dTx w l, dBs l + 9, rfl, hS, hR, hD, hT, hp, ht8, hw, hst, dAt_j A5 dWd_L.2.2.1 (j := 9) (by decide) rfl, (h35 (by decide)).1, dAt_j A5 dWd_L.2.2.1 (j := 10) (by decide) rfl, fun I' f1 f2 fr => hQ 4 n I' L ?_ (Or.inl (by decide)) (fun j => Or.inl (fr _ _ (by omega) (by omega) (by omega) (by omega))) (fun c j g => fr c j (by omega) (by omega) (by omega) (by omega)) (fun _ _ _ => rfl)⟩
    refine ⟨⟨⟨(fr k 23 (by omega) (by omega) (by omega) (by omega)).trans hw, zTd_fr hT (fun c j g => fr c j (by omega) (by omega) (by omega) (by omega))⟩, ⟨by decide, hn⟩, fun _ => hn0 (by decide), fun g => absurd g (by decide)⟩, ⟨f1, f2⟩, ⟨fun _ => ⟨(fr _ _ (by omega) (by omega) (by omega) (by omega)).trans (h35 (by decide)).1, (fr _ _ (by omega) (by omega) (by omega) (by omega)).trans (h35 (by decide)).2.1, (fr _ _ (by omega) (by omega) (by omega) (by omega)).trans (h35 (by decide)).2.2⟩, fun g => absurd g (by decide)⟩, ⟨(fr _ _ (by omega) (by omega) (by omega) (by omega)).trans h1, fun _ => ⟨(h3 (by decide)).1, (fr _ _ (by omega) (by omega) (by omega) (by omega)).trans (h3 (by decide)).2⟩⟩, (fr _ _ (by omega) (by omega) (by omega) (by omega)).trans h4, fun j hj => absurd (hn0 (by decide)) (by omega)⟩
  · subst e
    have hn1 := hn0 (by decide)
    subst hn1
    rcases A6 with ⟨q0, q1⟩ | ⟨q0, q1, q2⟩
    · have hno : ∀ i, 0 ≤ i → i < cuHc w → ¬ dIs w l i := fun i _ hi g => by
        have z := zct_lt2 hi g
        omega
      have ep := dPs_k (Nat.zero_le (cuHc w)) hno
      obtain ⟨E1, E2⟩ := dTx_e (w := w) (l := l)
      have ep2 : dPs w l (cuHc w) = dBs l + 11 := by omega
      rw [ep2] at E1 E2
      refine sn_X_l6 d hd _ I L R S Q hz ⟨k, dTx w l, dBs l + 11, rfl, hS, hR, hD, hT, hp, ht8, hw, hst, dAt_j E1 dWd_L.2.2.2.2.2.2.2 (j := 0) (by decide) rfl, dAt_j E1 dWd_L.2.2.2.2.2.2.2 (j := 1) (by decide) rfl, dAt_j E1 dWd_L.2.2.2.2.2.2.2 (j := 2) (by decide) rfl, dAt_j E1 dWd_L.2.2.2.2.2.2.2 (j := 3) (by decide) rfl, fun I' f1 f2 fr => hQ 6 (cuHc w) I' L ?_ (Or.inl (by decide)) (fun j => Or.inl (fr _ _ (by omega) (by omega) (by omega) (by omega))) (fun c j g => fr c j (by omega) (by omega) (by omega) (by omega)) (fun _ _ _ => rfl)⟩
      refine ⟨⟨⟨(fr k 23 (by omega) (by omega) (by omega) (by omega)).trans hw, zTd_fr hT (fun c j g => fr c j (by omega) (by omega) (by omega) (by omega))⟩, ⟨by decide, Nat.le_refl _⟩, fun g => absurd g (by decide), fun _ => rfl⟩, ⟨f1.trans (congrArg Int.ofNat E2.symm), f2⟩, ⟨fun _ => ⟨(fr _ _ (by omega) (by omega) (by omega) (by omega)).trans (h35 (by decide)).1, (fr _ _ (by omega) (by omega) (by omega) (by omega)).trans (h35 (by decide)).2.1, (fr _ _ (by omega) (by omega) (by omega) (by omega)).trans (h35 (by decide)).2.2⟩, fun g => absurd g (by decide)⟩, ⟨(fr _ _ (by omega) (by omega) (by omega) (by omega)).trans h1, fun _ => ⟨(h3 (by decide)).1, (fr _ _ (by omega) (by omega) (by omega) (by omega)).trans (h3 (by decide)).2⟩⟩, ((fr _ _ (by omega) (by omega) (by omega) (by omega)).trans h4).trans (by rw [q0]; rfl), fun j hj g => absurd g (hno j (Nat.zero_le j) hj)⟩
    · have B1 : dAt (dTx w l) (dBs l + 11 + 1) (dNu 0) := dAt_s (a := [84]) (by rw [← dWd_s.2.2]; exact q2)
      have C1 : dBs l + 11 + 1 + (dNu 0).length < (dTx w l).length ∧ wAt (dTx w l) (dBs l + 11 + 1 + (dNu 0).length) = 10 := by
        rw [z0]
        exact dAt_j q2 dWd_L.2.2.2.1 (j := 2) (by decide) rfl
      refine sn_X_l4 d hd _ I L R S Q hz ⟨k, dTx w l, dBs l + 11, rfl, hS, hR, hD, hT, hp, ht8, hw, hst, dAt_j q2 dWd_L.2.2.2.1 (j := 0) (by decide) rfl, h1, B1, C1, fun I' f1 f2 fr => hQ 5 0 I' L ?_ (Or.inl (by decide)) (fun j => Or.inl (fr _ _ (by omega) (by omega) (by omega) (by omega))) (fun c j g => fr c j (by omega) (by omega) (by omega) (by omega)) (fun _ _ _ => rfl)⟩
      refine ⟨⟨⟨(fr k 23 (by omega) (by omega) (by omega) (by omega)).trans hw, zTd_fr hT (fun c j g => fr c j (by omega) (by omega) (by omega) (by omega))⟩, ⟨by decide, Nat.zero_le _⟩, fun g => rfl, fun g => absurd g (by decide)⟩, ⟨f1.trans (by show _ = ((dPs w l 0 : Nat) : Int); omega), (fr _ _ (by omega) (by omega) (by omega) (by omega)).trans hst⟩, ⟨fun _ => ⟨(fr _ _ (by omega) (by omega) (by omega) (by omega)).trans (h35 (by decide)).1, (fr _ _ (by omega) (by omega) (by omega) (by omega)).trans (h35 (by decide)).2.1, (fr _ _ (by omega) (by omega) (by omega) (by omega)).trans (h35 (by decide)).2.2⟩, fun _ => f2⟩, ⟨(fr _ _ (by omega) (by omega) (by omega) (by omega)).trans h1, fun _ => ⟨(h3 (by decide)).1, (fr _ _ (by omega) (by omega) (by omega) (by omega)).trans (h3 (by decide)).2⟩⟩, (fr _ _ (by omega) (by omega) (by omega) (by omega)).trans h4, fun j hj => absurd hj (Nat.not_lt_zero j)⟩
  · subst e
    rcases dNx (dIs w l) n (cuHc w) with hno | ⟨j, j1, j2, j3, j4⟩
    · have ep := dPs_k hn hno
      have ez := zct_k hn hno
      obtain ⟨E1, E2⟩ := dTx_e (w := w) (l := l)
      rw [ep] at E1 E2
      refine sn_X_l6 d hd _ I L R S Q hz ⟨k, dTx w l, dPs w l n, rfl, hS, hR, hD, hT, hp, ht8, hw, hst, dAt_j E1 dWd_L.2.2.2.2.2.2.2 (j := 0) (by decide) rfl, dAt_j E1 dWd_L.2.2.2.2.2.2.2 (j := 1) (by decide) rfl, dAt_j E1 dWd_L.2.2.2.2.2.2.2 (j := 2) (by decide) rfl, dAt_j E1 dWd_L.2.2.2.2.2.2.2 (j := 3) (by decide) rfl, fun I' f1 f2 fr => hQ 6 (cuHc w) I' L ?_ (Or.inl (by decide)) (fun j => Or.inl (fr _ _ (by omega) (by omega) (by omega) (by omega))) (fun c j g => fr c j (by omega) (by omega) (by omega) (by omega)) (fun _ _ _ => rfl)⟩
      refine ⟨⟨⟨(fr k 23 (by omega) (by omega) (by omega) (by omega)).trans hw, zTd_fr hT (fun c j g => fr c j (by omega) (by omega) (by omega) (by omega))⟩, ⟨by decide, Nat.le_refl _⟩, fun g => absurd g (by decide), fun _ => rfl⟩, ⟨f1.trans (congrArg Int.ofNat E2.symm), f2⟩, ⟨fun _ => ⟨(fr _ _ (by omega) (by omega) (by omega) (by omega)).trans (h35 (by decide)).1, (fr _ _ (by omega) (by omega) (by omega) (by omega)).trans (h35 (by decide)).2.1, (fr _ _ (by omega) (by omega) (by omega) (by omega)).trans (h35 (by decide)).2.2⟩, fun g => absurd g (by decide)⟩, ⟨(fr _ _ (by omega) (by omega) (by omega) (by omega)).trans h1, fun _ => ⟨(h3 (by decide)).1, (fr _ _ (by omega) (by omega) (by omega) (by omega)).trans (h3 (by decide)).2⟩⟩, ((fr _ _ (by omega) (by omega) (by omega) (by omega)).trans h4).trans (by rw [ez]), fun i hi g => ?_⟩
      by_cases q : i < n
      · exact zRh_fr (hh i q g) (fun c gc => fr c _ (by omega) (by omega) (by omega) (by omega)) (fun c gc => rfl)
      · exact absurd g (hno i (by omega) hi)
    · have ep := dPs_k j1 j4
      have ez := zct_k j1 j4
      obtain ⟨⟨E1, E2, E3, E4, E5⟩, E6⟩ := dTx_n j2 j3
      rw [ep] at E1 E2 E3 E4 E5 E6
      have hm20 := zct_le (dIs w l) n
      refine sn_X_l5 d hd _ I L R S Q hz ⟨k, dTx w l, dPs w l n, dHx w j, dHy w j, zct (dIs w l) n, l, rfl, hS, hR, hD, hT, hp, ht8, hw, hst, dAt_j E1 dWd_L.2.2.2.2.1 (j := 0) (by decide) rfl, dHx_b, E2, dAt_j E3 dWd_L.2.2.2.2.2.1 (j := 0) (by decide) rfl, E4, dAt_j E5 dWd_L.2.2.2.2.2.2.1 (j := 0) (by decide) rfl, h4, by omega, h38 rfl, ⟨(h35 (by decide)).2, hl⟩, fun I' L' f1 f2 f3 fr frL => hQ 5 (j + 1) I' L' ?_ (Or.inr ⟨rfl, by omega⟩) (fun j' => Or.inl (fr _ _ (by omega) (by omega) (by omega) (by omega) (by omega) (by omega) (by omega) (by omega))) (fun c j g => fr c j (by omega) (by omega) (by omega) (by omega) (by omega) (by omega) (by omega) (by omega)) (fun c j g => frL c j (by omega) (by omega) (by omega) (by omega))⟩
      refine ⟨⟨⟨(fr k 23 (by omega) (by omega) (by omega) (by omega) (by omega) (by omega) (by omega) (by omega)).trans hw, zTd_fr hT (fun c j g => fr c j (by omega) (by omega) (by omega) (by omega) (by omega) (by omega) (by omega) (by omega))⟩, ⟨by decide, by omega⟩, fun g => absurd g (by decide), fun g => absurd g (by decide)⟩, ⟨f1.trans (congrArg Int.ofNat E6.symm), (fr _ _ (by omega) (by omega) (by omega) (by omega) (by omega) (by omega) (by omega) (by omega)).trans hst⟩, ⟨fun _ => ⟨(fr _ _ (by omega) (by omega) (by omega) (by omega) (by omega) (by omega) (by omega) (by omega)).trans (h35 (by decide)).1, (fr _ _ (by omega) (by omega) (by omega) (by omega) (by omega) (by omega) (by omega) (by omega)).trans (h35 (by decide)).2.1, (fr _ _ (by omega) (by omega) (by omega) (by omega) (by omega) (by omega) (by omega) (by omega)).trans (h35 (by decide)).2.2⟩, fun _ => (fr _ _ (by omega) (by omega) (by omega) (by omega) (by omega) (by omega) (by omega) (by omega)).trans (h38 rfl)⟩, ⟨(fr _ _ (by omega) (by omega) (by omega) (by omega) (by omega) (by omega) (by omega) (by omega)).trans h1, fun _ => ⟨(frL _ _ (by omega) (by omega) (by omega) (by omega)).trans (h3 (by decide)).1, (fr _ _ (by omega) (by omega) (by omega) (by omega) (by omega) (by omega) (by omega) (by omega)).trans (h3 (by decide)).2⟩⟩, f2.trans (by rw [zct_t j3, ez]; rfl), fun i hi g => ?_⟩
      by_cases q : i < n
      · have zz := zct_lt2 q g
        exact zRh_fr (hh i q g) (fun c gc => fr c _ (by omega) (by omega) (by omega) (by omega) (by omega) (by omega) (by omega) (by omega)) (fun c gc => frL c _ (by omega) (by omega) (by omega) (by omega))
      · by_cases q2 : i = j
        · subst q2
          rw [ez]
          exact f3
        · exact absurd g (j4 i (by omega) (by omega))
