/-! yd -/
def zA15_7_4 : List (Int × Nat × Nat) := [(60, 103, 3), (60, 100, 4), (60, 100, 5), (60, 101, 6), (60, 101, 7), (60, 101, 8), (60, 101, 9), (60, 101, 10), (60, 100, 11), (40, 100, 12), (60, 100, 13), (60, 100, 14), (60, 100, 15)]
def T_N_15 : ZT := fun args I L R S Q => ∃ (k : Nat) (d : Int), args = [zvr k, zvi d] ∧ (zSh S) ∧ (zRs R) ∧ (zNq k 15 19 I L R S) ∧ (1 ≤ d ∧ d ≤ 8) ∧ ∀ (I' : ZI) (L' : ZI) (R' : ZR) (S' : ZS), (zSg S S') → (zDy zT15 zF15 k R' S') → (I' k 1 = d ∧ I' k 2 = 0) → (∀ q : Nat, q < 40 → I' (k + 10) q = -1) → (zRs R') → (S'.2.1 = S.2.1 + 13 ∧ S'.2.2 = S.2.2 + 760) → (∀ c j : Nat, ¬ (k ≤ c ∧ c ≤ k + 13) → I' c j = I c j) → (∀ c j : Nat, ¬ (k ≤ c ∧ c ≤ k + 13) → L' c j = L c j) → (∀ c j : Nat, ¬ (k ≤ c ∧ c ≤ k + 13) → R' c j = R c j) → Q none I' L' R' S'
theorem sn_N_15 : ZSnd 1 15 7 T_N_15 := ZSnd.loops (zT15_7 0) (by
  rintro args I L R S Q hz ⟨k, d, rfl, hS, hR, hnw, hd1, hQ⟩
  obtain ⟨q1, q2, q3, q4⟩ := id hnw
  refine ⟨[135], fun nM tM lsM stM I1 L1 R1 S1 => match tM with
      | 135 => ∃ (m : Nat), nM = ((41 - m), 0, 0) ∧ lsM = [some (zvr (k)), none, some (zvi (m))] ∧ stM = [] ∧ True ∧ (m ≤ 40) ∧ (zSh S1) ∧ (zRs R1) ∧ (zSg S S1) ∧ (zDy zT15 zF15 k R1 S1) ∧ (S1.2.1 = S.2.1 + 13 ∧ S1.2.2 = S.2.2 + 760) ∧ (I1 k 1 = d ∧ I1 k 2 = 0) ∧ (∀ c : Nat, c < m → I1 (k + 10) c = -1) ∧ (∀ c j : Nat, ¬ (k ≤ c ∧ c ≤ k + 13) → I1 c j = I c j) ∧ (∀ c j : Nat, ¬ (k ≤ c ∧ c ≤ k + 13) → L1 c j = L c j) ∧ (∀ c j : Nat, ¬ (k ≤ c ∧ c ≤ k + 13) → R1 c j = R c j)
      | _ => False, rfl, ?_, ⟨?_, True.intro⟩⟩
  · refine zmB zA15_7_4 [zf_ald 0, zf_ild 1, zf_ic 1, zf_ic2 .ge 118, zf_ic 1, zf_go 130] [some (zvr k), some (zvi d), none] rfl rfl rfl (by decide) (by decide) (zNq_x hnw) (by have w := hnw.1; omega) (fun I4n L4n R4n S4n hw4 => ?_)
    have hl4 : zA15_7_4.length = 13 := rfl
    have fI4 : ∀ c j : Nat, ¬ (k + 1 ≤ c ∧ c ≤ k + 13) → I4n c j = I c j := fun c j q => (hw4.2.2.1 c j (by have w := hnw.1; omega)).1
    have fL4 : ∀ c j : Nat, ¬ (k + 1 ≤ c ∧ c ≤ k + 13) → L4n c j = L c j := fun c j q => (hw4.2.2.1 c j (by have w := hnw.1; omega)).2
    have fR4 : ∀ c j : Nat, ¬ c = k → ¬ (k + 1 ≤ c ∧ c ≤ k + 13) → R4n c j = R c j := fun c j q1 q2 => hw4.2.2.2.2.1 c j (by have w := hnw.1; omega) q1
    have hRR4n : zRs R4n := zRs_fr hR (fun c j q => fR4 c j (by have := Nat.blt_eq.mp q; omega) (by have := Nat.blt_eq.mp q; omega))
    have hg4 := hw4.1.2.2
    have hS := zSh_gr hS hg4
    have hz4 : S4n.2.1 = k + 14 := by have w := hw4.1.1; have w2 := hnw.1; omega
    have hx4 : xat S4n k 15 := zSg_x hg4 (zNq_x hnw)
    refine And.intro ⟨(by omega), (zRb rfl)⟩ ⟨fun h111 => ?_, (fun h111 => False.elim (by omega))⟩
    refine And.intro ⟨(by omega), (zRb rfl)⟩ ⟨fun h121 => ?_, (fun h121 => False.elim (by omega))⟩
    refine And.intro hx4 ⟨_, (zWi (by omega)), ?_⟩
    refine ⟨((41 - (0 : Nat)), 0, 0), [some (zvr (k)), none, some (zvi ((0 : Nat)))], ⟨rfl, rfl, rfl⟩, 0, rfl, rfl, rfl, True.intro, (by omega), hS, hRR4n, hg4, (zNw_dy hw4 q1 (by omega) q2 rfl (by decide)), ⟨hw4.1.1, hw4.1.2.1⟩, ⟨zxe, zxs (by decide) ((fI4 k 2 (by omega)).trans (q4 2).1)⟩, (fun c h => absurd h (Nat.not_lt_zero c)), (fun c j h0 => (zxcj (by omega) ((fI4 c j (by omega)).trans rfl))), (fun c j h0 => ((fL4 c j (by omega)).trans rfl)), (fun c j h0 => ((fR4 c j (by omega) (by omega)).trans rfl))⟩
  · rintro nM lsM stM I1 L1 R1 S1 hz1 ⟨m, rfl, rfl, rfl, -, hm, hS, hR1, hSg1, hDy1, hsz1, h01, hh, fr, frL, frR⟩
    refine And.intro ⟨(by omega), (zRb rfl)⟩ ⟨fun h138 => ?_, fun h138 => ?_⟩
    · refine hQ _ _ _ _ hSg1 hDy1 h01 (fun q hq => hh q (by omega)) hR1 hsz1 (fun c j h0 => ((fr c j (by omega)).trans rfl)) (fun c j h0 => ((frL c j (by omega)).trans rfl)) (fun c j h0 => ((frR c j (by omega)).trans rfl))
    · refine And.intro (zDX hDy1 0 rfl) (zrdR (v := some (k + 10)) (zDR hDy1 9 rfl) ?_)
      refine And.intro ⟨(by show 40 ≤ _; omega), (zDP hDy1 10 rfl rfl (by omega) (by omega))⟩ ⟨_, (zWi (zRb rfl)), ?_⟩
      refine ⟨((41 - (m + 1)), 0, 0), zlt6 (by omega), [some (zvr (k)), none, some (zvi ((m + 1)))], ⟨rfl, rfl, rfl⟩, (m + 1), rfl, rfl, rfl, True.intro, (by omega), hS, hR1, hSg1, hDy1, hsz1, ⟨zxu (by omega) h01.1, zxu (by omega) h01.2⟩, (fun c hc => by by_cases e : c = m; (rw [e]; exact zxe' (by omega)); exact zxs (by omega) (hh c (by omega))), (fun c j h0 => (zxu (by omega) ((fr c j (by omega)).trans rfl))), (fun c j h0 => ((frL c j (by omega)).trans rfl)), (fun c j h0 => ((frR c j (by omega)).trans rfl))⟩)
