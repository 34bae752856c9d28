/-! zz5 -/
def T_S_bk1 : ZT := fun args I L R S Q => ∃ (k : Nat) (n : Nat) (e : Nat → Int) (x : StR) (M : Nat) (u : Int) (w : Int), args = [zvr k, zvi 1, zvi u, zvi w] ∧ (zSh S) ∧ (zRs R) ∧ (zDy zT8 zF8 k R S) ∧ (k = 130 ∨ k = 134) ∧ (zEt k n e I) ∧ (zSr k M x I) ∧ (M = 410) ∧ (srV n 0 x) ∧ ((0 ≤ u ∧ u ≤ 126) ∧ 0 ≤ w ∧ w ≤ 126) ∧ ∀ (I' : ZI), (zSr k M (bk1 e u w x) I') → (∀ c j : Nat, ¬ (c = k ∧ j = 2) → ¬ (c = k ∧ j = 3) → ¬ (c = k ∧ j = 4) → ¬ c = k + 2 → ¬ c = k + 3 → I' c j = I c j) → Q none I' L R S
theorem sn_S_bk1 : ZSnd 70 8 12 T_S_bk1 := ZSnd.of (zT8_12 69) (by
  rintro args I L R S Q hz ⟨k, n, e, x, M, u, w, rfl, hS, hR, hD, hk, hE, hx, hM, hxn, hu, hQ⟩
  have hk130 : 130 ≤ k := by omega
  have hk134 : k ≤ 134 := by omega
  obtain ⟨hE1, hE2, hE3⟩ := id hE
  have hn4 := hE2.1
  subst hM
  have hxv := srV_n hxn
  have hxa : (x.1 = 1 ∧ I k 2 = x.2.1 ∧ I k 3 = -1 ∧ I k 4 = x.2.2.1) ∨ (x.1 = 0 ∧ I k 3 = x.2.1 ∧ 0 ≤ I k 2 ∧ I k 2 ≤ 410 ∧ 0 ≤ I k 4 ∧ I k 4 ≤ 200) := zSr_n hx
  have hb7 := hE2.2.2 x.2.1
  obtain ⟨y, hy⟩ : ∃ y : StR, y = (ls2 e w (srP x (x.2.1 + 1))) := ⟨_, rfl⟩
  have hyv : x.1 = 1 → x.2.1 + 1 ≤ n → srV n 0 y := fun h1 h2 => by rw [hy]; exact ls2_V hE2 (Or.inl ⟨rfl, Nat.zero_le _, h2, by show x.2.2.1 ≤ 100; omega⟩)
  refine And.intro rfl ?_
  refine And.intro (zDX hD 0 rfl) (Exists.intro _ (And.intro (zinl_ok (zT8_8 68)) (And.intro rfl ?_)))
  refine And.intro (zDX hD 0 rfl) (fun v1_2 e1_2 r1_2 => ?_)
  refine And.intro ⟨r1_2, (zRb rfl)⟩ ⟨fun h5_2 => ?_, fun h5_2 => ?_⟩
  · refine And.intro (Or.inl rfl) ?_
    refine And.intro (zRb rfl) (zbt rfl ?_)
    refine And.intro (zDX hD 0 rfl) (fun v15 e15 r15 => ?_)
    refine And.intro (zDX hD 0 rfl) (Exists.intro _ (And.intro (zinl_ok (zT8_2 68)) (And.intro rfl ?_)))
    refine And.intro (zDX hD 0 rfl) (fun v1_18 e1_18 r1_18 => ?_)
    refine And.intro ⟨r1_18, (zRb rfl)⟩ ⟨fun h5_18 => ?_, fun h5_18 => ?_⟩
    · refine hQ _ ?_ (fun c j h0 h1 h2 h3 h4 => rfl)
      · show zSr k 410 (if x.1 = 1 then (if e x.2.1 = u then srD e w x.2.1 (ls2 e w (srP x (x.2.1 + 1))) else srF x x.2.1) else x) _
        first
        | (rw [if_neg (by omega)]; exact hx)
        | (rw [if_pos (by omega), if_neg (by omega)]; exact zSr_f (a := I k 2) (b := I k 2) (d := I k 4) (zxs (by omega) rfl) (by first | exact zxe | exact zxe.trans (by omega)) (zxs (by omega) rfl) (by omega) (by omega) (by omega))
        | (rw [if_pos (by omega), if_pos (by omega), ← hy]
           exact zSr_d g43bbb (fun h1 => by omega) (fun c j h => zxcj (by omega) rfl) ((zxe' (by omega)).trans (by omega)) p59hR (fun c j h1 h2 => p59bfr c j h1 h2))
    · refine And.intro (zDX hD 0 rfl) ⟨_, (zWi r15), ?_⟩
      refine hQ _ ?_ (fun c j h0 h1 h2 h3 h4 => (zxcj h1 rfl))
      · show zSr k 410 (if x.1 = 1 then (if e x.2.1 = u then srD e w x.2.1 (ls2 e w (srP x (x.2.1 + 1))) else srF x x.2.1) else x) _
        first
        | (rw [if_neg (by omega)]; exact hx)
        | (rw [if_pos (by omega), if_neg (by omega)]; exact zSr_f (a := I k 2) (b := I k 2) (d := I k 4) (zxs (by omega) rfl) (by first | exact zxe | exact zxe.trans (by omega)) (zxs (by omega) rfl) (by omega) (by omega) (by omega))
        | (rw [if_pos (by omega), if_pos (by omega), ← hy]
           exact zSr_d g43bbb (fun h1 => by omega) (fun c j h => zxcj (by omega) rfl) ((zxe' (by omega)).trans (by omega)) p59hR (fun c j h1 h2 => p59bfr c j h1 h2))
  · refine And.intro (zDX hD 0 rfl) (fun v10_2 e10_2 r10_2 => ?_)
    refine And.intro (zDX hD 0 rfl) ⟨_, sn_S_let.up (by decide), ?_⟩
    refine ⟨_, n, e, (v10_2 : Int), x.2.1, rfl, hS, hR, hD, (by first | exact hk | (clear hQ; grind [xu])), (by first | exact (zEt_fr hE (fun c j h => rfl)) | (clear hQ; grind [xu])), (by omega), ?_⟩
    intro v13_2o p13_2hv p13_2bhv2
    refine And.intro ⟨(by omega), (by omega)⟩ ⟨fun h17_2 => ?_, fun h17_2 => ?_⟩
    · refine And.intro (Or.inl rfl) ?_
      refine And.intro (zRb rfl) (zbt rfl ?_)
      refine And.intro (zDX hD 0 rfl) (fun v15 e15 r15 => ?_)
      refine And.intro (zDX hD 0 rfl) (Exists.intro _ (And.intro (zinl_ok (zT8_2 68)) (And.intro rfl ?_)))
      refine And.intro (zDX hD 0 rfl) (fun v1_18 e1_18 r1_18 => ?_)
      refine And.intro ⟨r1_18, (zRb rfl)⟩ ⟨fun h5_18 => ?_, fun h5_18 => ?_⟩
      · refine hQ _ ?_ (fun c j h0 h1 h2 h3 h4 => rfl)
        · show zSr k 410 (if x.1 = 1 then (if e x.2.1 = u then srD e w x.2.1 (ls2 e w (srP x (x.2.1 + 1))) else srF x x.2.1) else x) _
          first
          | (rw [if_neg (by omega)]; exact hx)
          | (rw [if_pos (by omega), if_neg (by omega)]; exact zSr_f (a := I k 2) (b := I k 2) (d := I k 4) (zxs (by omega) rfl) (by first | exact zxe | exact zxe.trans (by omega)) (zxs (by omega) rfl) (by omega) (by omega) (by omega))
          | (rw [if_pos (by omega), if_pos (by omega), ← hy]
             exact zSr_d g43bbb (fun h1 => by omega) (fun c j h => zxcj (by omega) rfl) ((zxe' (by omega)).trans (by omega)) p59hR (fun c j h1 h2 => p59bfr c j h1 h2))
      · refine And.intro (zDX hD 0 rfl) ⟨_, (zWi r15), ?_⟩
        refine hQ _ ?_ (fun c j h0 h1 h2 h3 h4 => (zxcj h1 rfl))
        · show zSr k 410 (if x.1 = 1 then (if e x.2.1 = u then srD e w x.2.1 (ls2 e w (srP x (x.2.1 + 1))) else srF x x.2.1) else x) _
          first
          | (rw [if_neg (by omega)]; exact hx)
          | (rw [if_pos (by omega), if_neg (by omega)]; exact zSr_f (a := I k 2) (b := I k 2) (d := I k 4) (zxs (by omega) rfl) (by first | exact zxe | exact zxe.trans (by omega)) (zxs (by omega) rfl) (by omega) (by omega) (by omega))
          | (rw [if_pos (by omega), if_pos (by omega), ← hy]
             exact zSr_d g43bbb (fun h1 => by omega) (fun c j h => zxcj (by omega) rfl) ((zxe' (by omega)).trans (by omega)) p59hR (fun c j h1 h2 => p59bfr c j h1 h2))
    · refine And.intro (Or.inr rfl) ?_
      refine And.intro (zRb rfl) (zbf rfl ?_)
      refine And.intro ⟨(zRb rfl), (zRb rfl)⟩ (zbt rfl ?_)
      refine And.intro (zDX hD 0 rfl) (fun v23 e23 r23 => ?_)
      refine And.intro (zDX hD 0 rfl) (fun v30 e30 r30 => ?_)
      refine And.intro (zDX hD 0 rfl) ⟨_, (zWi (by omega)), ?_⟩
      refine And.intro (zDX hD 0 rfl) ⟨_, sn_S_ls2.up (by decide), ?_⟩
      refine ⟨_, n, e, (srP x (x.2.1 + 1)), (w : Int), rfl, hS, hR, hD, (by first | exact hk | (clear hQ; grind [xu])), (by first | exact (zEt_fr hE (fun c j h => (zxcj (by omega) rfl))) | (clear hQ; grind [xu])), (by rcases hx with ⟨q1, ⟨q2, q3, q4⟩, q5, q6⟩ | q1; (exact Or.inl ⟨rfl, ⟨zxe.trans (show _ = ((x.2.1 + 1 : Nat) : Int) from by omega), zxs (by omega) q3, zxs (by omega) q4⟩, fun q hq => zxu (by omega) (q5 q hq), fun q hq => zxu (by omega) (q6 q hq)⟩); (exfalso; omega)), rfl, (Or.inl ⟨rfl, Nat.zero_le _, eTx_lt hE2 (by omega), (show x.2.2.1 ≤ 100 by omega)⟩), (by omega), ?_⟩
      intro I43o p43hR p43bfr
      have g43 : srV n 0 y := (hyv (by omega) (eTx_lt hE2 (by omega)))
      have g43b : x.2.1 < n := (eTx_lt hE2 (by omega))
      have g43bb : y.2.1 ≤ n ∧ ((y.1 = 1 ∧ y.2.2.1 ≤ 100) ∨ y.1 = 0) := (srV_n g43)
      have g43bbb : zSr k 410 y I43o := (by rw [hy]; exact p43hR)
      have g43bbbb : (y.1 = 1 ∧ I43o k 2 = y.2.1 ∧ I43o k 3 = -1 ∧ I43o k 4 = y.2.2.1) ∨ (y.1 = 0 ∧ I43o k 3 = y.2.1 ∧ 0 ≤ I43o k 2 ∧ I43o k 2 ≤ 410 ∧ 0 ≤ I43o k 4 ∧ I43o k 4 ≤ 200) := (zSr_n g43bbb)
      refine And.intro (zDX hD 0 rfl) (zrdR (v := some (k + 2)) (zDR hD 1 rfl) ?_)
      refine And.intro (zDX hD 0 rfl) (fun v53 e53 r53 => ?_)
      refine And.intro ⟨(by show 40 ≤ _; omega), (zDP hD 2 rfl rfl (by omega) (by omega))⟩ ⟨_, (zWi r53), ?_⟩
      refine And.intro (zDX hD 0 rfl) ⟨_, sn_S_tkE.up (by decide), ?_⟩
      refine ⟨_, n, e, (w : Int), (y.1, y.2.1, []), 410, rfl, hS, hR, hD, (by first | exact hk | (clear hQ; grind [xu])), (by first | exact (zEt_fr hE (fun c j h => (zxcj (by omega) ((p43bfr c j (by omega) (by omega) (by omega) (by omega) (by omega)).trans (zxcj (by omega) rfl))))) | (clear hQ; grind [xu])), (zEr_fr (zSr_z g43bbb) (fun c j h => zxu (by omega) rfl)), (by omega), ⟨(show y.1 = 0 ∨ y.1 = 1 by omega), g43bb.1⟩, (by omega), ?_⟩
      intro I59o p59hR p59bfr
      refine hQ _ ?_ (fun c j h0 h1 h2 h3 h4 => ((p59bfr c j h0 h1).trans (zxu h3 ((p43bfr c j h0 h1 h2 h3 h4).trans (zxcj h0 rfl)))))
      · show zSr k 410 (if x.1 = 1 then (if e x.2.1 = u then srD e w x.2.1 (ls2 e w (srP x (x.2.1 + 1))) else srF x x.2.1) else x) _
        first
        | (rw [if_neg (by omega)]; exact hx)
        | (rw [if_pos (by omega), if_neg (by omega)]; exact zSr_f (a := I k 2) (b := I k 2) (d := I k 4) (zxs (by omega) rfl) (by first | exact zxe | exact zxe.trans (by omega)) (zxs (by omega) rfl) (by omega) (by omega) (by omega))
        | (rw [if_pos (by omega), if_pos (by omega), ← hy]
           exact zSr_d g43bbb (fun h1 => by omega) (fun c j h => zxcj (by omega) rfl) ((zxe' (by omega)).trans (by omega)) p59hR (fun c j h1 h2 => p59bfr c j h1 h2)))
