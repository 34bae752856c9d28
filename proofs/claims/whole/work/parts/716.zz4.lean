/-! zz4 -/
def T_S_stb2 : ZT := fun args I L R S Q => ∃ (k : Nat) (n : Nat) (e : Nat → Int) (x : StR) (p : Nat), args = [zvr k, zvi 2] ∧ (zSh S) ∧ (zRs R) ∧ (zDy zT8 zF8 k R S) ∧ (k = 130 ∨ k = 134) ∧ (zEt k n e I) ∧ (I k 2 = p) ∧ (I k 3 = -1) ∧ (I k 4 = x.2.2.1) ∧ (∀ q : Nat, q < 400 → I (k + 2) q = x.2.2.2.1 q) ∧ (∀ f : Nat, f < 26 → I (k + 3) f = x.2.2.2.2 f) ∧ (x.1 = 1 ∧ x.2.1 = p) ∧ (p < n) ∧ (x.2.2.1 < 100) ∧ (e p = 63 ∨ e p = 42 ∨ e p = 126 ∨ e p = 91 ∨ e p = 58) ∧ ∀ (I' : ZI), (zSr k 410 (srS e (bk2 e) false p (srC x)) I') → (∀ c j : Nat, ¬ (c = k ∧ j = 2) → ¬ (c = k ∧ j = 3) → ¬ (c = k ∧ j = 4) → ¬ c = k + 2 → ¬ c = k + 3 → I' c j = I c j) → Q none I' L R S
theorem sn_S_stb2 : ZSnd 43 8 19 T_S_stb2 := ZSnd.of (zT8_19 42) (by
  rintro args I L R S Q hz ⟨k, n, e, x, p, rfl, hS, hR, hD, hk, hE, h2, hf3, hc4, hcl, hfn, hx1, hp, hm, hu5, hQ⟩
  have hk130 : 130 ≤ k := by omega
  have hk134 : k ≤ 134 := by omega
  obtain ⟨hE1, hE2, hE3⟩ := id hE
  have hn4 := hE2.1
  refine And.intro rfl ?_
  refine And.intro (zDX hD 0 rfl) (zrd (v := p) h2 ?_)
  refine And.intro (zDX hD 0 rfl) ⟨_, sn_S_let.up (by decide), ?_⟩
  refine ⟨_, n, e, (p : Int), p, rfl, hS, hR, hD, (by first | exact hk | (clear hQ; grind [xu])), hE, (by omega), ?_⟩
  intro v5o p5hv p5bhv2
  refine And.intro (zDX hD 0 rfl) (zrd (v := (x.2.2.1)) hc4 ?_)
  refine And.intro ⟨(by omega), (zRb rfl)⟩ ⟨fun h15 => ?_, (fun h15 => False.elim (by omega))⟩
  refine And.intro (zDX hD 0 rfl) (zrd (v := (x.2.2.1)) hc4 ?_)
  refine And.intro (zDX hD 0 rfl) ⟨_, (zWi (by omega)), ?_⟩
  refine And.intro ⟨(by omega), (zRb rfl)⟩ ⟨fun h39 => ?_, fun h39 => ?_⟩
  · refine And.intro (zDX hD 0 rfl) ⟨_, sn_S_bs2.up (by decide), ?_⟩
    refine ⟨_, n, e, (srC x), p, (v5o : Int), rfl, hS, hR, hD, (by first | exact hk | (clear hQ; grind [xu])), (by first | exact (zEt_fr hE (fun c j h => (zxcj (by omega) rfl))) | (clear hQ; grind [xu])), (by first | exact zxe | exact h2 | exact hf3 | exact hc4 | (refine zxs (by omega) ?_; first | exact zxe | exact h2 | exact hf3 | exact hc4 | (refine zxs (by omega) ?_; first | exact zxe | exact h2 | exact hf3 | exact hc4 | (refine zxs (by omega) ?_; first | exact zxe | exact h2 | exact hf3 | exact hc4 | (refine zxs (by omega) ?_; first | exact zxe | exact h2 | exact hf3 | exact hc4))))), (by first | exact zxe | exact h2 | exact hf3 | exact hc4 | (refine zxs (by omega) ?_; first | exact zxe | exact h2 | exact hf3 | exact hc4 | (refine zxs (by omega) ?_; first | exact zxe | exact h2 | exact hf3 | exact hc4 | (refine zxs (by omega) ?_; first | exact zxe | exact h2 | exact hf3 | exact hc4 | (refine zxs (by omega) ?_; first | exact zxe | exact h2 | exact hf3 | exact hc4))))), (zxe.trans (show _ = ((x.2.2.1 + 1 : Nat) : Int) from by omega)), (fun q hq => (zxu (by omega) (hcl q hq))), (fun q hq => (zxu (by omega) (hfn q hq))), hx1, (by omega), (show x.2.2.1 + 1 ≤ 100 by omega), (by omega), (by clear hQ; grind [xu]), ?_⟩
    intro I69o p69hR p69bfr
    refine hQ _ p69hR (fun c j h0 h1 h2 h3 h4 => ((p69bfr c j h0 h1 h2 h3 h4).trans (zxcj h2 rfl)))
  · refine And.intro ⟨(by omega), (zRb rfl)⟩ ⟨fun h45 => ?_, fun h45 => ?_⟩
    · refine And.intro (zDX hD 0 rfl) ⟨_, sn_S_bs2.up (by decide), ?_⟩
      refine ⟨_, n, e, (srC x), p, (v5o : Int), rfl, hS, hR, hD, (by first | exact hk | (clear hQ; grind [xu])), (by first | exact (zEt_fr hE (fun c j h => (zxcj (by omega) rfl))) | (clear hQ; grind [xu])), (by first | exact zxe | exact h2 | exact hf3 | exact hc4 | (refine zxs (by omega) ?_; first | exact zxe | exact h2 | exact hf3 | exact hc4 | (refine zxs (by omega) ?_; first | exact zxe | exact h2 | exact hf3 | exact hc4 | (refine zxs (by omega) ?_; first | exact zxe | exact h2 | exact hf3 | exact hc4 | (refine zxs (by omega) ?_; first | exact zxe | exact h2 | exact hf3 | exact hc4))))), (by first | exact zxe | exact h2 | exact hf3 | exact hc4 | (refine zxs (by omega) ?_; first | exact zxe | exact h2 | exact hf3 | exact hc4 | (refine zxs (by omega) ?_; first | exact zxe | exact h2 | exact hf3 | exact hc4 | (refine zxs (by omega) ?_; first | exact zxe | exact h2 | exact hf3 | exact hc4 | (refine zxs (by omega) ?_; first | exact zxe | exact h2 | exact hf3 | exact hc4))))), (zxe.trans (show _ = ((x.2.2.1 + 1 : Nat) : Int) from by omega)), (fun q hq => (zxu (by omega) (hcl q hq))), (fun q hq => (zxu (by omega) (hfn q hq))), hx1, (by omega), (show x.2.2.1 + 1 ≤ 100 by omega), (by omega), (by clear hQ; grind [xu]), ?_⟩
      intro I69o p69hR p69bfr
      refine hQ _ p69hR (fun c j h0 h1 h2 h3 h4 => ((p69bfr c j h0 h1 h2 h3 h4).trans (zxcj h2 rfl)))
    · refine And.intro ⟨(by omega), (zRb rfl)⟩ ⟨fun h51 => ?_, fun h51 => ?_⟩
      · refine And.intro (zDX hD 0 rfl) ⟨_, sn_S_bs2.up (by decide), ?_⟩
        refine ⟨_, n, e, (srC x), p, (v5o : Int), rfl, hS, hR, hD, (by first | exact hk | (clear hQ; grind [xu])), (by first | exact (zEt_fr hE (fun c j h => (zxcj (by omega) rfl))) | (clear hQ; grind [xu])), (by first | exact zxe | exact h2 | exact hf3 | exact hc4 | (refine zxs (by omega) ?_; first | exact zxe | exact h2 | exact hf3 | exact hc4 | (refine zxs (by omega) ?_; first | exact zxe | exact h2 | exact hf3 | exact hc4 | (refine zxs (by omega) ?_; first | exact zxe | exact h2 | exact hf3 | exact hc4 | (refine zxs (by omega) ?_; first | exact zxe | exact h2 | exact hf3 | exact hc4))))), (by first | exact zxe | exact h2 | exact hf3 | exact hc4 | (refine zxs (by omega) ?_; first | exact zxe | exact h2 | exact hf3 | exact hc4 | (refine zxs (by omega) ?_; first | exact zxe | exact h2 | exact hf3 | exact hc4 | (refine zxs (by omega) ?_; first | exact zxe | exact h2 | exact hf3 | exact hc4 | (refine zxs (by omega) ?_; first | exact zxe | exact h2 | exact hf3 | exact hc4))))), (zxe.trans (show _ = ((x.2.2.1 + 1 : Nat) : Int) from by omega)), (fun q hq => (zxu (by omega) (hcl q hq))), (fun q hq => (zxu (by omega) (hfn q hq))), hx1, (by omega), (show x.2.2.1 + 1 ≤ 100 by omega), (by omega), (by clear hQ; grind [xu]), ?_⟩
        intro I69o p69hR p69bfr
        refine hQ _ p69hR (fun c j h0 h1 h2 h3 h4 => ((p69bfr c j h0 h1 h2 h3 h4).trans (zxcj h2 rfl)))
      · refine And.intro ⟨(by omega), (zRb rfl)⟩ ⟨fun h57 => ?_, fun h57 => ?_⟩
        · refine And.intro (zDX hD 0 rfl) ⟨_, sn_S_bs2.up (by decide), ?_⟩
          refine ⟨_, n, e, (srC x), p, (v5o : Int), rfl, hS, hR, hD, (by first | exact hk | (clear hQ; grind [xu])), (by first | exact (zEt_fr hE (fun c j h => (zxcj (by omega) rfl))) | (clear hQ; grind [xu])), (by first | exact zxe | exact h2 | exact hf3 | exact hc4 | (refine zxs (by omega) ?_; first | exact zxe | exact h2 | exact hf3 | exact hc4 | (refine zxs (by omega) ?_; first | exact zxe | exact h2 | exact hf3 | exact hc4 | (refine zxs (by omega) ?_; first | exact zxe | exact h2 | exact hf3 | exact hc4 | (refine zxs (by omega) ?_; first | exact zxe | exact h2 | exact hf3 | exact hc4))))), (by first | exact zxe | exact h2 | exact hf3 | exact hc4 | (refine zxs (by omega) ?_; first | exact zxe | exact h2 | exact hf3 | exact hc4 | (refine zxs (by omega) ?_; first | exact zxe | exact h2 | exact hf3 | exact hc4 | (refine zxs (by omega) ?_; first | exact zxe | exact h2 | exact hf3 | exact hc4 | (refine zxs (by omega) ?_; first | exact zxe | exact h2 | exact hf3 | exact hc4))))), (zxe.trans (show _ = ((x.2.2.1 + 1 : Nat) : Int) from by omega)), (fun q hq => (zxu (by omega) (hcl q hq))), (fun q hq => (zxu (by omega) (hfn q hq))), hx1, (by omega), (show x.2.2.1 + 1 ≤ 100 by omega), (by omega), (by clear hQ; grind [xu]), ?_⟩
          intro I69o p69hR p69bfr
          refine hQ _ p69hR (fun c j h0 h1 h2 h3 h4 => ((p69bfr c j h0 h1 h2 h3 h4).trans (zxcj h2 rfl)))
        · refine And.intro ⟨(by omega), (zRb rfl)⟩ ⟨fun h63 => ?_, fun h63 => ?_⟩
          · exact False.elim (by omega)
          · refine And.intro (zDX hD 0 rfl) ⟨_, sn_S_bs2.up (by decide), ?_⟩
            refine ⟨_, n, e, (srC x), p, (v5o : Int), rfl, hS, hR, hD, (by first | exact hk | (clear hQ; grind [xu])), (by first | exact (zEt_fr hE (fun c j h => (zxcj (by omega) rfl))) | (clear hQ; grind [xu])), (by first | exact zxe | exact h2 | exact hf3 | exact hc4 | (refine zxs (by omega) ?_; first | exact zxe | exact h2 | exact hf3 | exact hc4 | (refine zxs (by omega) ?_; first | exact zxe | exact h2 | exact hf3 | exact hc4 | (refine zxs (by omega) ?_; first | exact zxe | exact h2 | exact hf3 | exact hc4 | (refine zxs (by omega) ?_; first | exact zxe | exact h2 | exact hf3 | exact hc4))))), (by first | exact zxe | exact h2 | exact hf3 | exact hc4 | (refine zxs (by omega) ?_; first | exact zxe | exact h2 | exact hf3 | exact hc4 | (refine zxs (by omega) ?_; first | exact zxe | exact h2 | exact hf3 | exact hc4 | (refine zxs (by omega) ?_; first | exact zxe | exact h2 | exact hf3 | exact hc4 | (refine zxs (by omega) ?_; first | exact zxe | exact h2 | exact hf3 | exact hc4))))), (zxe.trans (show _ = ((x.2.2.1 + 1 : Nat) : Int) from by omega)), (fun q hq => (zxu (by omega) (hcl q hq))), (fun q hq => (zxu (by omega) (hfn q hq))), hx1, (by omega), (show x.2.2.1 + 1 ≤ 100 by omega), (by omega), (by clear hQ; grind [xu]), ?_⟩
            intro I69o p69hR p69bfr
            refine hQ _ p69hR (fun c j h0 h1 h2 h3 h4 => ((p69bfr c j h0 h1 h2 h3 h4).trans (zxcj h2 rfl))))
def T_S_stA2 : ZT := fun args I L R S Q => ∃ (k : Nat) (n : Nat) (e : Nat → Int) (x : StR), args = [zvr k, zvi 2] ∧ (zSh S) ∧ (zRs R) ∧ (zDy zT8 zF8 k R S) ∧ (k = 130 ∨ k = 134) ∧ (zEt k n e I) ∧ (zSr k 410 x I) ∧ (x.1 = 1) ∧ (srV n 0 x) ∧ ∀ (I' : ZI), (zSr k 410 (srT e (bk2 e) false x) I') → (∀ c j : Nat, ¬ (c = k ∧ j = 2) → ¬ (c = k ∧ j = 3) → ¬ (c = k ∧ j = 4) → ¬ c = k + 2 → ¬ c = k + 3 → I' c j = I c j) → Q none I' L R S
theorem sn_S_stA2 : ZSnd 44 8 19 T_S_stA2 := by
  rintro d hd args I L R S Q hz ⟨k, n, e, x, rfl, hS, hR, hD, hk, hE, hx, hx1, hxn, hQ⟩
  have hv := srV_n hxn
  rcases hx with ⟨-, ⟨q2, q3, q4⟩, q5, q6⟩ | hx
  · by_cases e1 : 100 ≤ x.2.2.1
    · refine sn_S_stF d (Nat.le_trans (by decide) hd) _ I L R S Q hz ⟨k, n, e, x.2.1, x.2.2.1, 2, rfl, hS, hR, hD, hk, hE, hv.1, q2, q3, q4, by omega, by omega, fun I' f3 f2 f4 fr => hQ I' ?_ (fun c j w1 w2 w3 w4 w5 => fr c j w1 w2 w3 w5)⟩
      have z9 : srT e (bk2 e) false x = srF x x.2.1 := if_pos e1
      rw [z9]
      exact Or.inr ⟨rfl, ⟨f3, f2.1, f2.2⟩, by omega, by omega⟩
    · have z9 : srT e (bk2 e) false x = srS e (bk2 e) false x.2.1 (srC x) := if_neg e1
      by_cases e2 : e x.2.1 = 63 ∨ e x.2.1 = 42 ∨ e x.2.1 = 126 ∨ e x.2.1 = 91 ∨ e x.2.1 = 58
      · refine sn_S_stb2 d (Nat.le_trans (by decide) hd) _ I L R S Q hz ⟨k, n, e, x, x.2.1, rfl, hS, hR, hD, hk, hE, q2, q3, q4, q5, q6, ⟨hx1, rfl⟩, eTx_lt hE.2.1 (by omega), by omega, e2, fun I' f1 fr => hQ I' ?_ fr⟩
        rw [z9]
        exact f1
      · refine sn_S_sti d (Nat.le_trans (by decide) hd) _ I L R S Q hz ⟨k, n, e, x.2.1, x.2.2.1, 2, rfl, hS, hR, hD, hk, hE, hv.1, q2, q3, q4, by omega, by omega, fun I' f1 f4 fr => hQ I' ?_ (fun c j w1 w2 w3 w4 w5 => fr c j w1 w2 w3)⟩
        rw [z9, srS_e (by omega)]
        exact zSr_e (x := srC x) f1 (by decide) f4 (show _ = ((x.2.2.1 + 1 : Nat) : Int) from by omega) (show x.2.2.1 + 1 ≤ 200 by omega) (fun q hq => (fr _ _ (by omega) (by omega) (by omega)).trans (q5 q hq)) (fun q hq => (fr _ _ (by omega) (by omega) (by omega)).trans (q6 q hq))
  · exact absurd hx.1 (by omega)

def T_S_ls2 : ZT := fun args I L R S Q => ∃ (k : Nat) (n : Nat) (e : Nat → Int) (x : StR) (w : Int), args = [zvr k, zvi 2, zvi w] ∧ (zSh S) ∧ (zRs R) ∧ (zDy zT8 zF8 k R S) ∧ (k = 130 ∨ k = 134) ∧ (zEt k n e I) ∧ (zSr k 410 x I) ∧ (x.1 = 1) ∧ (srV n 0 x) ∧ (-1 ≤ w ∧ w ≤ 126) ∧ ∀ (I' : ZI), (zSr k 410 (ls2 e w x) I') → (∀ c j : Nat, ¬ (c = k ∧ j = 2) → ¬ (c = k ∧ j = 3) → ¬ (c = k ∧ j = 4) → ¬ c = k + 2 → ¬ c = k + 3 → I' c j = I c j) → Q none I' L R S
theorem sn_S_ls2 : ZSnd 45 8 20 T_S_ls2 := ZSnd.loops (zT8_20 44) (by
  rintro args I L R S Q hz ⟨k, n, e, x, w, rfl, hS, hR, hD, hk, hE, hx, hx1, hxn, hw, hQ⟩
  have hk130 : 130 ≤ k := by omega
  have hk134 : k ≤ 134 := by omega
  obtain ⟨hE1, hE2, hE3⟩ := id hE
  have hn4 := hE2.1
  refine ⟨[2], fun nM tM lsM stM I1 L1 R1 S1 => match tM with
      | 2 => ∃ (m : Nat) (y : StR), nM = ((402 - m), 0, 0) ∧ lsM = [some (zvr (k)), some (zvi (2)), some (zvi (w)), some (zvi (m))] ∧ stM = [] ∧ L1 = L ∧ R1 = R ∧ S1 = S ∧ (m ≤ 401) ∧ (zSr k 410 y I1) ∧ (srV n 0 y) ∧ (srL e (srT e (bk2 e) false) w (401 - m) y = ls2 e w x) ∧ (∀ c j : Nat, ¬ (c = k ∧ j = 2) → ¬ (c = k ∧ j = 3) → ¬ (c = k ∧ j = 4) → ¬ c = k + 2 → ¬ c = k + 3 → I1 c j = I c j)
      | _ => False, rfl, ?_, ⟨?_, True.intro⟩⟩
  · refine ⟨((402 - (0 : Nat)), 0, 0), [some (zvr (k)), some (zvi (2)), some (zvi (w)), some (zvi ((0 : Nat)))], ⟨rfl, rfl, rfl, rfl, rfl⟩, 0, x, rfl, rfl, rfl, rfl, rfl, rfl, (by omega), hx, hxn, rfl, (fun c j h0 h1 h2 h3 h4 => rfl)⟩
  · rintro nM lsM stM I1 L1 R1 S1 hz1 ⟨m, y, rfl, rfl, rfl, rfl, rfl, rfl, hm, hY, hyn, hrest, fr⟩
    have hE_1 : zEt k n e I1 := zEt_fr hE (fun c j h => fr c j (by omega) (by omega) (by omega) (by omega) (by omega))
    have hYa : (y.1 = 1 ∧ I1 k 2 = y.2.1 ∧ I1 k 3 = -1 ∧ I1 k 4 = y.2.2.1) ∨ (y.1 = 0 ∧ I1 k 3 = y.2.1 ∧ 0 ≤ I1 k 2 ∧ I1 k 2 ≤ 410 ∧ 0 ≤ I1 k 4 ∧ I1 k 4 ≤ 200) := zSr_n hY
    have hyv := srV_n hyn
    have hE11 : I1 k 1 = n := hE_1.1
    have hb8 := hE2.2.2 y.2.1
    refine And.intro ⟨(by omega), (zRb rfl)⟩ ⟨fun h6 => ?_, fun h6 => ?_⟩
    · refine hQ _ ?_ (fun c j h0 h1 h2 h3 h4 => ((fr c j h0 h1 h2 h3 h4).trans rfl))
      · have z2 : y = ls2 e w x := by
          first
          | (rw [srL_0 (fun q => by omega)] at hrest
             exact hrest)
          | (have z1 : 401 - m = 0 := (by omega)
             rw [z1] at hrest
             exact hrest)
        rw [← z2]
        exact hY
    · refine And.intro (zDX hD 0 rfl) (fun v10 e10 r10 => ?_)
      refine And.intro ⟨r10, (zRb rfl)⟩ ⟨fun h14 => ?_, fun h14 => ?_⟩
      · refine hQ _ ?_ (fun c j h0 h1 h2 h3 h4 => ((fr c j h0 h1 h2 h3 h4).trans rfl))
        · have z2 : y = ls2 e w x := by
            first
            | (rw [srL_0 (fun q => by omega)] at hrest
               exact hrest)
            | (have z1 : 401 - m = 0 := (by omega)
               rw [z1] at hrest
               exact hrest)
          rw [← z2]
          exact hY
      · refine And.intro (zDX hD 0 rfl) (fun v19 e19 r19 => ?_)
        refine And.intro (zDX hD 0 rfl) ⟨_, sn_S_let.up (by decide), ?_⟩
        refine ⟨_, n, e, (v19 : Int), y.2.1, rfl, hS, hR, hD, (by first | exact hk | (clear hQ; grind [xu])), hE_1, (by omega), ?_⟩
        intro v22o p22hv p22bhv2
        refine And.intro ⟨(by omega), (by omega)⟩ ⟨fun h26 => ?_, fun h26 => ?_⟩
        · refine hQ _ ?_ (fun c j h0 h1 h2 h3 h4 => ((fr c j h0 h1 h2 h3 h4).trans rfl))
          · have z2 : y = ls2 e w x := by
              first
              | (rw [srL_0 (fun q => by omega)] at hrest
                 exact hrest)
              | (have z1 : 401 - m = 0 := (by omega)
                 rw [z1] at hrest
                 exact hrest)
            rw [← z2]
            exact hY
        · refine And.intro (zDX hD 0 rfl) (fun v31 e31 r31 => ?_)
          refine And.intro (zDX hD 0 rfl) ⟨_, sn_S_let.up (by decide), ?_⟩
          refine ⟨_, n, e, (v31 : Int), y.2.1, rfl, hS, hR, hD, (by first | exact hk | (clear hQ; grind [xu])), hE_1, (by omega), ?_⟩
          intro v34o p34hv p34bhv2
          refine And.intro ⟨(by omega), (zRb rfl)⟩ ⟨fun h39 => ?_, fun h39 => ?_⟩
          · refine And.intro (zDX hD 0 rfl) ⟨_, sn_S_stA2.up (by decide), ?_⟩
            refine ⟨_, n, e, y, rfl, hS, hR, hD, (by first | exact hk | (clear hQ; grind [xu])), hE_1, hY, (by omega), hyn, ?_⟩
            intro I57o p57hR p57bfr
            refine ⟨((402 - (m + 1)), 0, 0), zlt6 (by omega), [some (zvr (k)), some (zvi (2)), some (zvi (w)), some (zvi ((m + 1)))], ⟨rfl, rfl, rfl, rfl, rfl⟩, (m + 1), ((srT e (bk2 e) false) y), rfl, rfl, rfl, rfl, rfl, rfl, (by omega), ?_, ?_, ?_, (fun c j h0 h1 h2 h3 h4 => ((p57bfr c j h0 h1 h2 h3 h4).trans ((fr c j h0 h1 h2 h3 h4).trans rfl)))⟩
            · first
              | exact p57hR
              | (rcases hY with ⟨q1, ⟨q2, q3, q4⟩, q5, q6⟩ | q1
                 · refine Or.inl ⟨rfl, ⟨zxe.trans (show _ = ((y.2.1 + 1 : Nat) : Int) from by omega), zxs (by omega) q3, zxs (by omega) q4⟩, fun q hq => zxu (by omega) (q5 q hq), fun q hq => zxu (by omega) (q6 q hq)⟩
                 · exfalso; omega)
            · first
              | exact srT_V hE2 bk2_V (by omega) hyn
              | (rcases hyn with q1 | q1
                 · exact Or.inl ⟨rfl, Nat.zero_le _, eTx_lt hE2 (by omega), q1.2.2.2⟩
                 · exfalso; omega)
            · have z1 : 401 - m = (401 - (m + 1)) + 1 := (by omega)
              rw [z1] at hrest
              first
              | (rw [srL_a ⟨by omega, by omega⟩ (by omega)] at hrest; exact hrest)
              | (rw [srL_b ⟨by omega, by omega⟩ (by omega)] at hrest; exact hrest)
          · have t39 : y.1 = 1 ∧ e y.2.1 = 10 := (by omega)
            refine And.intro (zDX hD 0 rfl) (fun v44 e44 r44 => ?_)
            refine And.intro (zDX hD 0 rfl) ⟨_, (zWi (by omega)), ?_⟩
            refine ⟨((402 - (m + 1)), 0, 0), zlt6 (by omega), [some (zvr (k)), some (zvi (2)), some (zvi (w)), some (zvi ((m + 1)))], ⟨rfl, rfl, rfl, rfl, rfl⟩, (m + 1), (srP y (y.2.1 + 1)), rfl, rfl, rfl, rfl, rfl, rfl, (by omega), ?_, ?_, ?_, (fun c j h0 h1 h2 h3 h4 => (zxcj h0 ((fr c j h0 h1 h2 h3 h4).trans rfl)))⟩
            · first
              | exact p57hR
              | (rcases hY with ⟨q1, ⟨q2, q3, q4⟩, q5, q6⟩ | q1
                 · refine Or.inl ⟨rfl, ⟨zxe.trans (show _ = ((y.2.1 + 1 : Nat) : Int) from by omega), zxs (by omega) q3, zxs (by omega) q4⟩, fun q hq => zxu (by omega) (q5 q hq), fun q hq => zxu (by omega) (q6 q hq)⟩
                 · exfalso; omega)
            · first
              | exact srT_V hE2 bk2_V (by omega) hyn
              | (rcases hyn with q1 | q1
                 · exact Or.inl ⟨rfl, Nat.zero_le _, eTx_lt hE2 (by omega), q1.2.2.2⟩
                 · exfalso; omega)
            · have z1 : 401 - m = (401 - (m + 1)) + 1 := (by omega)
              rw [z1] at hrest
              first
              | (rw [srL_a ⟨by omega, by omega⟩ (by omega)] at hrest; exact hrest)
              | (rw [srL_b ⟨by omega, by omega⟩ (by omega)] at hrest; exact hrest))
