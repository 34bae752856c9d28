/-! cua -/
def T_U_wrd : ZT := fun args I L R S Q => ∃ (k : Nat) (t : List Int) (a : Nat) (x : Nat), args = [zvr k, zvr x] ∧ (zSh S) ∧ (zRs R) ∧ (zDy zT1 zF1 k R S) ∧ (k = 106 ∨ k = 118) ∧ (zUd k t I) ∧ (x = 10 + a ∧ 21 ≤ a ∧ a ≤ 28) ∧ (t.length + (tsb a).length ≤ 800) ∧ ∀ (I' : ZI), (zUd k (t ++ dWd a) I') → ((t ++ dWd a).length = t.length + (tsb a).length) → (∀ c j : Nat, ¬ (c = k ∧ j = 17) → ¬ c = k + 11 → I' c j = I c j) → Q none I' L R S
theorem sn_U_wrd : ZSnd 1 1 14 T_U_wrd := ZSnd.loops (zT1_14 0) (by
  rintro args I L R S Q hz ⟨k, t, a, x, rfl, hS, hR, hD, hk, hP, hx, hl8, hQ⟩
  have hk106 : 106 ≤ k := by omega
  have hk118 : k ≤ 118 := by omega
  have hx2 : x - 10 = a := by omega
  have hxl : ((tsb (x - 10)).length : Int) = ((tsb a).length : Int) := by rw [hx2]
  have hl6 := (dWd_n a (by omega) hx.2.1).2
  refine ⟨[2], fun nM tM lsM stM I1 L1 R1 S1 => match tM with
      | 2 => ∃ (i : Nat) (p : Nat), nM = ((20 - i), 0, 0) ∧ lsM = [some (zvr (k)), some (zvr (x)), some (zvi (i))] ∧ stM = [] ∧ L1 = L ∧ R1 = R ∧ S1 = S ∧ (i ≤ (tsb a).length) ∧ (I1 k 17 = p) ∧ (p = t.length + i) ∧ (zUd k (t ++ wRw (tWd a) i) I1) ∧ (∀ c j : Nat, ¬ (c = k ∧ j = 17) → ¬ c = k + 11 → I1 c j = I c j)
      | _ => False, rfl, ?_, ⟨?_, True.intro⟩⟩
  · refine ⟨((20 - (0 : Nat)), 0, 0), [some (zvr (k)), some (zvr (x)), some (zvi ((0 : Nat)))], ⟨rfl, rfl, rfl, rfl⟩, 0, t.length, rfl, rfl, rfl, rfl, rfl, rfl, (by clear hQ; grind [xu]), hP.1, (by omega), (by show zUd k (t ++ []) I; rw [List.append_nil]; exact hP), (fun c j h0 h1 => rfl)⟩
  · rintro nM lsM stM I1 L1 R1 S1 hz1 ⟨i, p, rfl, rfl, rfl, rfl, rfl, rfl, hi, hq17, hp, hP1, fr⟩
    have hxc : (((tsb (x - 10)).getD (i : Int).toNat 0 : Nat) : Int) = tWd a i := by rw [hx2]; rfl
    have wb := fun h => dWd_b a (by omega) hx.2.1 i h
    refine And.intro ⟨by omega, by omega⟩ ?_
    have c4 := tsb_l (x - 10)
    refine And.intro ⟨(by omega), (by omega)⟩ ⟨fun h7 => ?_, fun h7 => ?_⟩
    · refine hQ _ (by have e : i = (tsb a).length := (by omega); subst e; exact hP1) (by unfold dWd; rw [List.length_append, wRw_l]) (fun c j h0 h1 => ((fr c j h0 h1).trans rfl))
    · refine And.intro (zDX hD 0 rfl) (zrd (v := p) hq17 ?_)
      refine And.intro ⟨(by omega), (zRb rfl)⟩ ⟨fun h17 => ?_, fun h17 => ?_⟩
      · refine hQ _ (by have e : i = (tsb a).length := (by omega); subst e; exact hP1) (by unfold dWd; rw [List.length_append, wRw_l]) (fun c j h0 h1 => ((fr c j h0 h1).trans rfl))
      · refine And.intro (zDX hD 0 rfl) (zrdR (v := some (k + 11)) (zDR hD 8 rfl) ?_)
        refine And.intro (zDX hD 0 rfl) (zrd (v := p) hq17 ?_)
        refine And.intro ⟨⟨by omega, by omega⟩, by omega, by omega⟩ ?_
        have c30 := tsb_b (x - 10) (i : Int).toNat
        refine And.intro ⟨(by show 40 ≤ _; omega), (zDP hD 11 rfl rfl (by omega) (by omega)), (by omega), (by omega)⟩ ?_
        refine And.intro (zDX hD 0 rfl) (zrd (v := p) (zxu (by omega) hq17) ?_)
        refine And.intro (zDX hD 0 rfl) ⟨_, (zWi (by omega)), ?_⟩
        refine ⟨((20 - (i + 1)), 0, 0), zlt6 (by omega), [some (zvr (k)), some (zvr (x)), some (zvi ((i + 1)))], ⟨rfl, rfl, rfl, rfl⟩, (i + 1), (p + 1), rfl, rfl, rfl, rfl, rfl, rfl, (by first | exact hi | (clear hQ; grind [xu])), (zxe.trans (by omega)), (by omega), ?_, (fun c j h0 h1 => (zxcj h0 (zxu h1 ((fr c j h0 h1).trans rfl))))⟩
        · have hlen : (t ++ wRw (tWd a) i).length = p := by rw [List.length_append, wRw_l]; omega
          refine zUd_c (zUd_e (u := tWd a i) hP1 ?_ ?_ ?_) (by rw [List.append_assoc]; rfl)
          · rw [hlen]; exact zxe
          · rw [hlen]
            refine zxu (by omega) ?_
            rw [← hxc]
            exact zxe
          · rw [hlen]
            exact fun j hj => zxu (by omega) (zxs (by omega) rfl))
def T_U_nbr : ZT := fun args I L R S Q => ∃ (k : Nat) (t : List Int) (v : Int), args = [zvr k, zvi v] ∧ (zSh S) ∧ (zRs R) ∧ (zDy zT1 zF1 k R S) ∧ (k = 106 ∨ k = 118) ∧ (zUd k t I) ∧ (0 ≤ v ∧ v ≤ 99999) ∧ (t.length + 5 ≤ 800) ∧ ∀ (I' : ZI), (zUd k (t ++ dNu v) I') → ((t ++ dNu v).length ≤ t.length + 5) → (∀ c j : Nat, ¬ (c = k ∧ j = 17) → ¬ c = k + 11 → I' c j = I c j) → Q none I' L R S
theorem sn_U_nbr : ZSnd 1 1 13 T_U_nbr := ZSnd.loops (zT1_13 0) (by
  rintro args I L R S Q hz ⟨k, t, v, rfl, hS, hR, hD, hk, hP, hv, hl8, hQ⟩
  have hk106 : 106 ≤ k := by omega
  have hk118 : k ≤ 118 := by omega
  refine ⟨[6], fun nM tM lsM stM I1 L1 R1 S1 => match tM with
      | 6 => ∃ (i : Nat) (p : Nat) (b : Int) (u : Int), nM = ((20 - i), 0, 0) ∧ lsM = [some (zvr (k)), some (zvi (v)), some (zvi (b)), some (zvi (u))] ∧ stM = [] ∧ L1 = L ∧ R1 = R ∧ S1 = S ∧ (i ≤ 5) ∧ (u = dU i ∧ 0 ≤ u ∧ u ≤ 10000) ∧ ((b = 1 ∧ 0 < i ∧ (dU i ≤ v ∨ i = 5)) ∨ (b = 0 ∧ (i = 0 ∨ v < dU (i - 1)))) ∧ (I1 k 17 = p) ∧ (p = (t ++ dSt v i).length ∧ p ≤ t.length + i) ∧ (zUd k (t ++ dSt v i) I1) ∧ (∀ c j : Nat, ¬ (c = k ∧ j = 17) → ¬ c = k + 11 → I1 c j = I c j)
      | _ => False, rfl, ?_, ⟨?_, True.intro⟩⟩
  · refine ⟨((20 - (0 : Nat)), 0, 0), [some (zvr (k)), some (zvi (v)), some (zvi ((0 : Int))), some (zvi ((10000 : Int)))], ⟨rfl, rfl, rfl, rfl, rfl⟩, 0, t.length, 0, 10000, rfl, rfl, rfl, rfl, rfl, rfl, (by omega), ⟨by decide, by omega, by omega⟩, (Or.inr ⟨rfl, Or.inl rfl⟩), hP.1, ⟨by show _ = (t ++ []).length; rw [List.append_nil], by omega⟩, (by show zUd k (t ++ []) I; rw [List.append_nil]; exact hP), (fun c j h0 h1 => rfl)⟩
  · rintro nM lsM stM I1 L1 R1 S1 hz1 ⟨i, p, b, u, rfl, rfl, rfl, rfl, rfl, rfl, hi, hu, hb, hq17, hp, hP1, fr⟩
    have hds := dU_s i
    have hdl := dSt_l (v := v) i
    have hd5 := dU_5
    have hdz : i = 5 → dU i = 0 := (fun e => by rw [e]; exact hd5.1)
    refine And.intro (by omega) ⟨fun h7 => ?_, fun h7 => ?_⟩
    · refine hQ _ (by have e : i = 5 := (by by_cases q : i = 5; exact q; (have z := hds (by omega); omega)); subst e; exact hP1) (by rw [List.length_append]; have z := dNu_l (v := v); omega) (fun c j h0 h1 => ((fr c j h0 h1).trans rfl))
    · have t7 : i < 5 := (by by_cases e : i = 5; (exfalso; have := hdz e; omega); omega)
      have t7b : dU i / 10 = dU (i + 1) ∧ 1 ≤ dU i ∧ dU i ≤ 10000 ∧ (dU i = 1 ↔ i = 4) ∧ dU (i + 1) ≤ dU i := (hds t7)
      refine And.intro (zDX hD 0 rfl) (zrd (v := p) hq17 ?_)
      refine And.intro ⟨(by omega), (zRb rfl)⟩ ⟨fun h17 => ?_, fun h17 => ?_⟩
      · refine hQ _ (by have e : i = 5 := (by by_cases q : i = 5; exact q; (have z := hds (by omega); omega)); subst e; exact hP1) (by rw [List.length_append]; have z := dNu_l (v := v); omega) (fun c j h0 h1 => ((fr c j h0 h1).trans rfl))
      · refine And.intro (by omega) ⟨fun h21 => ?_, fun h21 => ?_⟩
        · refine And.intro (zRb rfl) (zbf rfl ?_)
          refine And.intro (zDX hD 0 rfl) (zrdR (v := some (k + 11)) (zDR hD 8 rfl) ?_)
          refine And.intro (zDX hD 0 rfl) (zrd (v := p) hq17 ?_)
          refine And.intro ⟨(by omega), (by omega), (by omega)⟩ (zdv (by omega) (fun q56 e56 => ?_))
          have f56 : 0 ≤ q56 ∧ q56 ≤ v := (by rw [e56]; exact ⟨Int.ediv_nonneg (by omega) (by omega), Int.ediv_le_self _ (by omega)⟩)
          refine And.intro ⟨(by omega), (zRb rfl), (by decide)⟩ (zdv (by omega) (fun q59 e59 => ?_))
          have m61 : (zi2c (48 + q59)) = (48 + q59) := zi2c_d (by omega)
          refine And.intro ⟨(by show 40 ≤ _; omega), (zDP hD 11 rfl rfl (by omega) (by omega)), (by omega), (by omega)⟩ ?_
          refine And.intro (zDX hD 0 rfl) (zrd (v := p) (zxu (by omega) hq17) ?_)
          refine And.intro (zDX hD 0 rfl) ⟨_, (zWi (by omega)), ?_⟩
          refine And.intro ⟨(by omega), (zRb rfl), (by decide)⟩ (zdv (by omega) (fun q76 e76 => ?_))
          refine ⟨((20 - (i + 1)), 0, 0), zlt6 (by omega), [some (zvr (k)), some (zvi (v)), some (zvi ((1 : Int))), some (zvi (q76))], ⟨rfl, rfl, rfl, rfl, rfl⟩, (i + 1), (p + 1), 1, q76, rfl, rfl, rfl, rfl, rfl, rfl, (by omega), (by have z := t7b.1; omega), (by have z := t7b; by_cases e : i = 4; (subst e; have z5 := dU_5; have z4 : dU 4 = 1 := rfl; omega); (rw [Nat.add_sub_cancel]; have z2 := dU_s (i + 1); omega)), (by first | exact zxe.trans (by omega) | exact hq17), (by first | (rw [dSt_y (v := v) (i := i) (by omega), ← List.append_assoc, wLn]; omega) | (rw [dSt_n (v := v) (i := i) (by omega)]; omega)), ?_, (fun c j h0 h1 => (zxcj h0 (zxu h1 ((fr c j h0 h1).trans rfl))))⟩
          · first
            | (rw [dSt_n (v := v) (i := i) (by omega)]; exact hP1)
            | (rw [dSt_y (v := v) (i := i) (by omega), ← List.append_assoc]
               refine zUd_e hP1 ?_ ?_ ?_
               · rw [← hp.1]; exact zxe
               · rw [← hp.1]
                 refine zxu (by omega) (zxe.trans ?_)
                 rw [← hu.1]
                 omega
               · rw [← hp.1]
                 exact fun j hj => zxu (by omega) (zxs (by omega) rfl))
        · refine And.intro ⟨(by omega), (by omega)⟩ ⟨fun h26 => ?_, fun h26 => ?_⟩
          · refine And.intro (zRb rfl) (zbf rfl ?_)
            refine And.intro (zDX hD 0 rfl) (zrdR (v := some (k + 11)) (zDR hD 8 rfl) ?_)
            refine And.intro (zDX hD 0 rfl) (zrd (v := p) hq17 ?_)
            refine And.intro ⟨(by omega), (by omega), (by omega)⟩ (zdv (by omega) (fun q56 e56 => ?_))
            have f56 : 0 ≤ q56 ∧ q56 ≤ v := (by rw [e56]; exact ⟨Int.ediv_nonneg (by omega) (by omega), Int.ediv_le_self _ (by omega)⟩)
            refine And.intro ⟨(by omega), (zRb rfl), (by decide)⟩ (zdv (by omega) (fun q59 e59 => ?_))
            have m61 : (zi2c (48 + q59)) = (48 + q59) := zi2c_d (by omega)
            refine And.intro ⟨(by show 40 ≤ _; omega), (zDP hD 11 rfl rfl (by omega) (by omega)), (by omega), (by omega)⟩ ?_
            refine And.intro (zDX hD 0 rfl) (zrd (v := p) (zxu (by omega) hq17) ?_)
            refine And.intro (zDX hD 0 rfl) ⟨_, (zWi (by omega)), ?_⟩
            refine And.intro ⟨(by omega), (zRb rfl), (by decide)⟩ (zdv (by omega) (fun q76 e76 => ?_))
            refine ⟨((20 - (i + 1)), 0, 0), zlt6 (by omega), [some (zvr (k)), some (zvi (v)), some (zvi ((1 : Int))), some (zvi (q76))], ⟨rfl, rfl, rfl, rfl, rfl⟩, (i + 1), (p + 1), 1, q76, rfl, rfl, rfl, rfl, rfl, rfl, (by omega), (by have z := t7b.1; omega), (by have z := t7b; by_cases e : i = 4; (subst e; have z5 := dU_5; have z4 : dU 4 = 1 := rfl; omega); (rw [Nat.add_sub_cancel]; have z2 := dU_s (i + 1); omega)), (by first | exact zxe.trans (by omega) | exact hq17), (by first | (rw [dSt_y (v := v) (i := i) (by omega), ← List.append_assoc, wLn]; omega) | (rw [dSt_n (v := v) (i := i) (by omega)]; omega)), ?_, (fun c j h0 h1 => (zxcj h0 (zxu h1 ((fr c j h0 h1).trans rfl))))⟩
            · first
              | (rw [dSt_n (v := v) (i := i) (by omega)]; exact hP1)
              | (rw [dSt_y (v := v) (i := i) (by omega), ← List.append_assoc]
                 refine zUd_e hP1 ?_ ?_ ?_
                 · rw [← hp.1]; exact zxe
                 · rw [← hp.1]
                   refine zxu (by omega) (zxe.trans ?_)
                   rw [← hu.1]
                   omega
                 · rw [← hp.1]
                   exact fun j hj => zxu (by omega) (zxs (by omega) rfl))
          · refine And.intro ⟨(by omega), (zRb rfl)⟩ ⟨fun h31 => ?_, fun h31 => ?_⟩
            · refine And.intro (zRb rfl) (zbt rfl ?_)
              refine And.intro ⟨(by omega), (zRb rfl), (by decide)⟩ (zdv (by omega) (fun q76 e76 => ?_))
              refine ⟨((20 - (i + 1)), 0, 0), zlt6 (by omega), [some (zvr (k)), some (zvi (v)), some (zvi ((0 : Int))), some (zvi (q76))], ⟨rfl, rfl, rfl, rfl, rfl⟩, (i + 1), p, 0, q76, rfl, rfl, rfl, rfl, rfl, rfl, (by omega), (by have z := t7b.1; omega), (by have z := t7b; by_cases e : i = 4; (subst e; have z5 := dU_5; have z4 : dU 4 = 1 := rfl; omega); (rw [Nat.add_sub_cancel]; have z2 := dU_s (i + 1); omega)), (by first | exact zxe.trans (by omega) | exact hq17), (by first | (rw [dSt_y (v := v) (i := i) (by omega), ← List.append_assoc, wLn]; omega) | (rw [dSt_n (v := v) (i := i) (by omega)]; omega)), ?_, (fun c j h0 h1 => ((fr c j h0 h1).trans rfl))⟩
              · first
                | (rw [dSt_n (v := v) (i := i) (by omega)]; exact hP1)
                | (rw [dSt_y (v := v) (i := i) (by omega), ← List.append_assoc]
                   refine zUd_e hP1 ?_ ?_ ?_
                   · rw [← hp.1]; exact zxe
                   · rw [← hp.1]
                     refine zxu (by omega) (zxe.trans ?_)
                     rw [← hu.1]
                     omega
                   · rw [← hp.1]
                     exact fun j hj => zxu (by omega) (zxs (by omega) rfl))
            · refine And.intro (zRb rfl) (zbf rfl ?_)
              refine And.intro (zDX hD 0 rfl) (zrdR (v := some (k + 11)) (zDR hD 8 rfl) ?_)
              refine And.intro (zDX hD 0 rfl) (zrd (v := p) hq17 ?_)
              refine And.intro ⟨(by omega), (by omega), (by omega)⟩ (zdv (by omega) (fun q56 e56 => ?_))
              have f56 : 0 ≤ q56 ∧ q56 ≤ v := (by rw [e56]; exact ⟨Int.ediv_nonneg (by omega) (by omega), Int.ediv_le_self _ (by omega)⟩)
              refine And.intro ⟨(by omega), (zRb rfl), (by decide)⟩ (zdv (by omega) (fun q59 e59 => ?_))
              have m61 : (zi2c (48 + q59)) = (48 + q59) := zi2c_d (by omega)
              refine And.intro ⟨(by show 40 ≤ _; omega), (zDP hD 11 rfl rfl (by omega) (by omega)), (by omega), (by omega)⟩ ?_
              refine And.intro (zDX hD 0 rfl) (zrd (v := p) (zxu (by omega) hq17) ?_)
              refine And.intro (zDX hD 0 rfl) ⟨_, (zWi (by omega)), ?_⟩
              refine And.intro ⟨(by omega), (zRb rfl), (by decide)⟩ (zdv (by omega) (fun q76 e76 => ?_))
              refine ⟨((20 - (i + 1)), 0, 0), zlt6 (by omega), [some (zvr (k)), some (zvi (v)), some (zvi ((1 : Int))), some (zvi (q76))], ⟨rfl, rfl, rfl, rfl, rfl⟩, (i + 1), (p + 1), 1, q76, rfl, rfl, rfl, rfl, rfl, rfl, (by omega), (by have z := t7b.1; omega), (by have z := t7b; by_cases e : i = 4; (subst e; have z5 := dU_5; have z4 : dU 4 = 1 := rfl; omega); (rw [Nat.add_sub_cancel]; have z2 := dU_s (i + 1); omega)), (by first | exact zxe.trans (by omega) | exact hq17), (by first | (rw [dSt_y (v := v) (i := i) (by omega), ← List.append_assoc, wLn]; omega) | (rw [dSt_n (v := v) (i := i) (by omega)]; omega)), ?_, (fun c j h0 h1 => (zxcj h0 (zxu h1 ((fr c j h0 h1).trans rfl))))⟩
              · first
                | (rw [dSt_n (v := v) (i := i) (by omega)]; exact hP1)
                | (rw [dSt_y (v := v) (i := i) (by omega), ← List.append_assoc]
                   refine zUd_e hP1 ?_ ?_ ?_
                   · rw [← hp.1]; exact zxe
                   · rw [← hp.1]
                     refine zxu (by omega) (zxe.trans ?_)
                     rw [← hu.1]
                     omega
                   · rw [← hp.1]
                     exact fun j hj => zxu (by omega) (zxs (by omega) rfl)))
def T_U_iho : ZT := fun args I L R S Q => ∃ (k : Nat) (w : List CuR) (a : Int) (i : Nat) (l : Int), args = [zvr k, zvi a, zvi l] ∧ (zSh S) ∧ (zRs R) ∧ (zDy zT1 zF1 k R S) ∧ (k = 106 ∨ k = 118) ∧ (w.length ≤ 60) ∧ (cuG w) ∧ (zUh k w I) ∧ (zUo k w I) ∧ (a = i ∧ i < cuHc w) ∧ (r32 l) ∧ ∀ (v : Int), ((v = 1 ∧ dIs w l i) ∨ (v = 0 ∧ ¬ dIs w l i)) → Q (some (zvi (v))) I L R S
theorem sn_U_iho : ZSnd 1 1 32 T_U_iho := ZSnd.of (zT1_32 0) (by
  rintro args I L R S Q hz ⟨k, w, a, i, l, rfl, hS, hR, hD, hk, hl, hG, hUh, hUo, hi, hr, hQ⟩
  have hk106 : 106 ≤ k := by omega
  have hk118 : k ≤ 118 := by omega
  have hc60 := cuHc_l hl
  obtain ⟨hHc, hHv⟩ := id hUh
  have hob := cuOr_b (w := w) (i := i) hi.2
  refine And.intro rfl ?_
  refine And.intro (zDX hD 0 rfl) (zrdR (v := some (k + 8)) (zDR hD 5 rfl) ?_)
  refine And.intro (zDX hD 0 rfl) (zrdR (v := some (k + 9)) (zDR hD 6 rfl) ?_)
  refine And.intro (zDP hD 9 rfl rfl (by omega) (by omega)) (fun v9 e9 r9 => ?_)
  have f9 : v9 = cuOr w i := (e9.trans ((congrArg (I (k + 9)) (by omega)).trans (hUo i (by omega))))
  have f9b : 0 ≤ v9 ∧ v9 + 1 ≤ cuHc w := (by have z := cuOr_b (w := w) (i := i) (by omega); omega)
  refine And.intro (zDP hD 8 rfl rfl (by omega) (by omega)) (fun v10 e10 r10 => ?_)
  have f10 : v10 = cuHv w (cuOr w i).toNat := (e10.trans ((congrArg (I (k + 8)) (by omega)).trans (hHv (cuOr w i).toNat (by omega))))
  have f10b : 0 ≤ v10 ∧ v10 ≤ 767 := (by have z := cuHv_b hG (show (cuOr w i).toNat < cuHc w by omega); omega)
  refine And.intro ⟨r10, (zRb rfl), (by decide)⟩ (zdv (by omega) (fun q14 e14 => ?_))
  refine And.intro ⟨(by omega), (by omega)⟩ ⟨fun h16 => ?_, fun h16 => ?_⟩
  · refine And.intro (Or.inl rfl) ?_
    refine hQ _ (by unfold dIs; omega)
  · refine And.intro (Or.inr rfl) ?_
    refine hQ _ (by unfold dIs; omega))
def T_U_hx : ZT := fun args I L R S Q => ∃ (k : Nat) (w : List CuR) (a : Int) (i : Nat), args = [zvr k, zvi a] ∧ (zSh S) ∧ (zRs R) ∧ (zDy zT1 zF1 k R S) ∧ (k = 106 ∨ k = 118) ∧ (w.length ≤ 60) ∧ (cuG w) ∧ (zUh k w I) ∧ (zUo k w I) ∧ (a = i ∧ i < cuHc w) ∧ ∀ (v : Int), (v = dHx w i) → (0 ≤ v ∧ v ≤ 15000) → Q (some (zvi (v))) I L R S
theorem sn_U_hx : ZSnd 2 1 25 T_U_hx := ZSnd.of (zT1_25 1) (by
  rintro args I L R S Q hz ⟨k, w, a, i, rfl, hS, hR, hD, hk, hl, hG, hUh, hUo, hi, hQ⟩
  have hk106 : 106 ≤ k := by omega
  have hk118 : k ≤ 118 := by omega
  have hc60 := cuHc_l hl
  obtain ⟨hHc, hHv⟩ := id hUh
  have hob := cuOr_b (w := w) (i := i) hi.2
  refine And.intro rfl ?_
  refine And.intro (zDX hD 0 rfl) (zrdR (v := some (k + 8)) (zDR hD 5 rfl) ?_)
  refine And.intro (zDX hD 0 rfl) (zrdR (v := some (k + 9)) (zDR hD 6 rfl) ?_)
  refine And.intro (zDP hD 9 rfl rfl (by omega) (by omega)) (fun v9 e9 r9 => ?_)
  have f9 : v9 = cuOr w i := (e9.trans ((congrArg (I (k + 9)) (by omega)).trans (hUo i (by omega))))
  have f9b : 0 ≤ v9 ∧ v9 + 1 ≤ cuHc w := (by have z := cuOr_b (w := w) (i := i) (by omega); omega)
  refine And.intro (zDP hD 8 rfl rfl (by omega) (by omega)) (fun v10 e10 r10 => ?_)
  have f10 : v10 = cuHv w (cuOr w i).toNat := (e10.trans ((congrArg (I (k + 8)) (by omega)).trans (hHv (cuOr w i).toNat (by omega))))
  have f10b : 0 ≤ v10 ∧ v10 ≤ 767 := (by have z := cuHv_b hG (show (cuOr w i).toNat < cuHc w by omega); omega)
  refine Exists.intro _ (And.intro (zinl_ok (zT1_57 0)) (And.intro rfl ?_))
  refine And.intro ⟨r10, (zRb rfl), (by decide)⟩ (zdv (by omega) (fun q6_11 e6_11 => ?_))
  refine hQ _ (by unfold dHx; omega) (by omega))
def T_U_hy : ZT := fun args I L R S Q => ∃ (k : Nat) (w : List CuR) (a : Int) (i : Nat), args = [zvr k, zvi a] ∧ (zSh S) ∧ (zRs R) ∧ (zDy zT1 zF1 k R S) ∧ (k = 106 ∨ k = 118) ∧ (w.length ≤ 60) ∧ (cuG w) ∧ (zUh k w I) ∧ (zUo k w I) ∧ (a = i ∧ i < cuHc w) ∧ ∀ (v : Int), (v = dHy w i) → (0 ≤ v ∧ v ≤ 15000) → Q (some (zvi (v))) I L R S
theorem sn_U_hy : ZSnd 2 1 26 T_U_hy := ZSnd.of (zT1_26 1) (by
  rintro args I L R S Q hz ⟨k, w, a, i, rfl, hS, hR, hD, hk, hl, hG, hUh, hUo, hi, hQ⟩
  have hk106 : 106 ≤ k := by omega
  have hk118 : k ≤ 118 := by omega
  have hc60 := cuHc_l hl
  obtain ⟨hHc, hHv⟩ := id hUh
  have hob := cuOr_b (w := w) (i := i) hi.2
  refine And.intro rfl ?_
  refine And.intro (zDX hD 0 rfl) (zrdR (v := some (k + 8)) (zDR hD 5 rfl) ?_)
  refine And.intro (zDX hD 0 rfl) (zrdR (v := some (k + 9)) (zDR hD 6 rfl) ?_)
  refine And.intro (zDP hD 9 rfl rfl (by omega) (by omega)) (fun v9 e9 r9 => ?_)
  have f9 : v9 = cuOr w i := (e9.trans ((congrArg (I (k + 9)) (by omega)).trans (hUo i (by omega))))
  have f9b : 0 ≤ v9 ∧ v9 + 1 ≤ cuHc w := (by have z := cuOr_b (w := w) (i := i) (by omega); omega)
  refine And.intro (zDP hD 8 rfl rfl (by omega) (by omega)) (fun v10 e10 r10 => ?_)
  have f10 : v10 = cuHv w (cuOr w i).toNat := (e10.trans ((congrArg (I (k + 8)) (by omega)).trans (hHv (cuOr w i).toNat (by omega))))
  have f10b : 0 ≤ v10 ∧ v10 ≤ 767 := (by have z := cuHv_b hG (show (cuOr w i).toNat < cuHc w by omega); omega)
  refine Exists.intro _ (And.intro (zinl_ok (zT1_58 0)) (And.intro rfl ?_))
  refine And.intro ⟨r10, (zRb rfl), (by decide)⟩ (zdv (by omega) (fun q6_11 e6_11 => ?_))
  refine And.intro ⟨(by omega), (zRb rfl), (by decide)⟩ (zdv (by omega) (fun q9_11 e9_11 => ?_))
  refine hQ _ (by unfold dHy; omega) (by omega))
def T_U_cho : ZT := fun args I L R S Q => ∃ (k : Nat) (w : List CuR) (l : Int), args = [zvr k, zvi l] ∧ (zSh S) ∧ (zRs R) ∧ (zDy zT1 zF1 k R S) ∧ (k = 106 ∨ k = 118) ∧ (w.length ≤ 60) ∧ (cuG w) ∧ (zUh k w I) ∧ (zUo k w I) ∧ (r32 l) ∧ ∀ (v : Int), (v = zct (dIs w l) (cuHc w)) → Q (some (zvi (v))) I L R S
theorem sn_U_cho : ZSnd 2 1 9 T_U_cho := ZSnd.loops (zT1_9 1) (by
  rintro args I L R S Q hz ⟨k, w, l, rfl, hS, hR, hD, hk, hl, hG, hUh, hUo, hr, hQ⟩
  have hk106 : 106 ≤ k := by omega
  have hk118 : k ≤ 118 := by omega
  have hc60 := cuHc_l hl
  obtain ⟨hHc, hHv⟩ := id hUh
  refine ⟨[4], fun nM tM lsM stM I1 L1 R1 S1 => match tM with
      | 4 => ∃ (m : Nat), nM = ((61 - m), 0, 0) ∧ lsM = [some (zvr (k)), some (zvi (l)), some (zvi (zct (dIs w l) m)), some (zvi (m))] ∧ stM = [] ∧ I1 = I ∧ L1 = L ∧ R1 = R ∧ S1 = S ∧ (m ≤ cuHc w)
      | _ => False, rfl, ?_, ⟨?_, True.intro⟩⟩
  · refine ⟨((61 - (0 : Nat)), 0, 0), [some (zvr (k)), some (zvi (l)), some (zvi (zct (dIs w l) (0 : Nat))), some (zvi ((0 : Nat)))], ⟨rfl, rfl, (congrArg (fun z => some (zvi z)) rfl), rfl, rfl⟩, 0, rfl, rfl, rfl, rfl, rfl, rfl, rfl, (by omega)⟩
  · rintro nM lsM stM I1 L1 R1 S1 hz1 ⟨m, rfl, rfl, rfl, rfl, rfl, rfl, rfl, hm⟩
    have hz1 := zct_le (dIs w l) m
    refine And.intro (zDX hD 0 rfl) (zrd (v := (cuHc w)) hHc ?_)
    refine And.intro ⟨(by omega), (by omega)⟩ ⟨fun h9 => ?_, fun h9 => ?_⟩
    · refine hQ _ (by have e : m = cuHc w := (by omega); subst e; rfl)
    · have t9 : m + 1 ≤ cuHc w := (by omega)
      refine And.intro (zDX hD 0 rfl) ⟨_, sn_U_iho.up (by decide), ?_⟩
      refine ⟨_, w, (m : Int), m, (l : Int), rfl, hS, hR, hD, (by first | exact hk | (clear hQ; grind [xu])), (by omega), (by first | exact hG | (clear hQ; grind [xu])), (by first | exact (zUh_fr hUh (fun c j h => rfl)) | (clear hQ; grind [xu])), (by first | exact (zUo_fr hUo (fun c j h => rfl)) | (clear hQ; grind [xu])), (by omega), (by omega), ?_⟩
      intro v16o p16hv
      refine And.intro (by omega) ⟨fun h19 => ?_, fun h19 => ?_⟩
      · refine ⟨((61 - (m + 1)), 0, 0), zlt6 (by omega), [some (zvr (k)), some (zvi (l)), some (zvi (zct (dIs w l) (m + 1))), some (zvi ((m + 1)))], ⟨rfl, rfl, (congrArg (fun z => some (zvi z)) (by
  rcases p16hv with z | z
  · first
    | (rw [zct_t z.2]; rfl)
    | (exfalso; omega)
  · first
    | (exfalso; omega)
    | (rw [zct_f z.2, Int.add_zero]))), rfl, rfl⟩, (m + 1), rfl, rfl, rfl, rfl, rfl, rfl, rfl, (by omega)⟩
      · refine ⟨((61 - (m + 1)), 0, 0), zlt6 (by omega), [some (zvr (k)), some (zvi (l)), some (zvi (zct (dIs w l) (m + 1))), some (zvi ((m + 1)))], ⟨rfl, rfl, (congrArg (fun z => some (zvi z)) (by
  rcases p16hv with z | z
  · first
    | (rw [zct_t z.2]; rfl)
    | (exfalso; omega)
  · first
    | (exfalso; omega)
    | (rw [zct_f z.2, Int.add_zero]))), rfl, rfl⟩, (m + 1), rfl, rfl, rfl, rfl, rfl, rfl, rfl, (by omega)⟩)
def T_U_wdr : ZT := fun args I L R S Q => ∃ (k : Nat) (w : List CuR) (l : Int), args = [zvr k, zvi l] ∧ (zSh S) ∧ (zRs R) ∧ (zDy zT1 zF1 k R S) ∧ (k = 106 ∨ k = 118) ∧ (w.length ≤ 60) ∧ (cuG w) ∧ (zUh k w I) ∧ (zUo k w I) ∧ (0 ≤ l ∧ l ≤ 6) ∧ (cuHc w ≤ 20) ∧ ∀ (I' : ZI), (zUd k (dTx w l) I') → (∀ c j : Nat, ¬ (c = k ∧ j = 17) → ¬ c = k + 11 → I' c j = I c j) → Q none I' L R S
theorem sn_U_wdr : ZSnd 3 1 56 T_U_wdr := ZSnd.loops (zT1_56 2) (by
  rintro args I L R S Q hz ⟨k, w, l, rfl, hS, hR, hD, hk, hl, hG, hUh, hUo, hr, h20, hQ⟩
  have hk106 : 106 ≤ k := by omega
  have hk118 : k ≤ 118 := by omega
  have hc60 := cuHc_l hl
  obtain ⟨hHc, hHv⟩ := id hUh
  obtain ⟨l21, l22, l23, l24, l25, l26, l27, l28⟩ := dWd_l
  have m21 : (tsb 21).length = 5 := rfl
  have m22 : (tsb 22).length = 1 := rfl
  have m23 : (tsb 23).length = 11 := rfl
  have m24 : (tsb 24).length = 3 := rfl
  have m25 : (tsb 25).length = 1 := rfl
  have m26 : (tsb 26).length = 1 := rfl
  have m27 : (tsb 27).length = 1 := rfl
  have m28 : (tsb 28).length = 4 := rfl
  have hzc := zct_le (dIs w l) (cuHc w)
  refine ⟨[55], fun nM tM lsM stM I1 L1 R1 S1 => match tM with
      | 55 => ∃ (n : Nat), nM = ((61 - n), 0, 0) ∧ lsM = [some (zvr (k)), some (zvi (l)), some (zvi (n))] ∧ stM = [] ∧ L1 = L ∧ R1 = R ∧ S1 = S ∧ (n ≤ cuHc w) ∧ (zUd k (dHd w l ++ cuC (dHl w l) n) I1) ∧ (∀ c j : Nat, ¬ (c = k ∧ j = 17) → ¬ c = k + 11 → I1 c j = I c j)
      | _ => False, rfl, ?_, ⟨?_, True.intro⟩⟩
  · refine And.intro (zDX hD 0 rfl) ⟨_, (zWi (zRb rfl)), ?_⟩
    refine And.intro (zDX hD 0 rfl) ⟨_, sn_U_wrd.up (by decide), ?_⟩
    refine ⟨_, [], 21, _, rfl, hS, hR, hD, (by first | exact hk | (clear hQ; grind [xu])), (zUd_0 zxe), (by omega), (by show 0 + (tsb 21).length ≤ 800; omega), ?_⟩
    intro I9o p9hP2 p9bhl2 p9bbfr
    refine And.intro (zDX hD 0 rfl) ⟨_, sn_U_nbr.up (by decide), ?_⟩
    refine ⟨_, ([] ++ dWd 21), (l : Int), rfl, hS, hR, hD, (by first | exact hk | (clear hQ; grind [xu])), p9hP2, (by omega), (by have z : ([] : List Int).length = 0 := rfl; omega), ?_⟩
    intro I14o p14hP2 p14bhl2 p14bbfr
    refine And.intro (zDX hD 0 rfl) ⟨_, sn_U_wrd.up (by decide), ?_⟩
    refine ⟨_, (([] ++ dWd 21) ++ dNu l), 22, _, rfl, hS, hR, hD, (by first | exact hk | (clear hQ; grind [xu])), p14hP2, (by omega), (by have z : ([] : List Int).length = 0 := rfl; omega), ?_⟩
    intro I21o p21hP2 p21bhl2 p21bbfr
    refine And.intro (zDX hD 0 rfl) ⟨_, sn_U_nbr.up (by decide), ?_⟩
    refine ⟨_, ((([] ++ dWd 21) ++ dNu l) ++ dWd 22), ((l + 1) : Int), rfl, hS, hR, hD, (by first | exact hk | (clear hQ; grind [xu])), p21hP2, (by omega), (by have z : ([] : List Int).length = 0 := rfl; omega), ?_⟩
    intro I28o p28hP2 p28bhl2 p28bbfr
    refine And.intro (zDX hD 0 rfl) ⟨_, sn_U_wrd.up (by decide), ?_⟩
    refine ⟨_, (((([] ++ dWd 21) ++ dNu l) ++ dWd 22) ++ dNu (l + 1)), 23, _, rfl, hS, hR, hD, (by first | exact hk | (clear hQ; grind [xu])), p28hP2, (by omega), (by have z : ([] : List Int).length = 0 := rfl; omega), ?_⟩
    intro I35o p35hP2 p35bhl2 p35bbfr
    refine And.intro (zDX hD 0 rfl) ⟨_, sn_U_cho.up (by decide), ?_⟩
    refine ⟨_, w, (l : Int), rfl, hS, hR, hD, (by first | exact hk | (clear hQ; grind [xu])), (by omega), (by first | exact hG | (clear hQ; grind [xu])), (by first | exact (zUh_fr hUh (fun c j h => ((p35bbfr c j (by omega) (by omega)).trans ((p28bbfr c j (by omega) (by omega)).trans ((p21bbfr c j (by omega) (by omega)).trans ((p14bbfr c j (by omega) (by omega)).trans ((p9bbfr c j (by omega) (by omega)).trans (zxcj (by omega) rfl)))))))) | (clear hQ; grind [xu])), (by first | exact (zUo_fr hUo (fun c j h => ((p35bbfr c j (by omega) (by omega)).trans ((p28bbfr c j (by omega) (by omega)).trans ((p21bbfr c j (by omega) (by omega)).trans ((p14bbfr c j (by omega) (by omega)).trans ((p9bbfr c j (by omega) (by omega)).trans (zxcj (by omega) rfl)))))))) | (clear hQ; grind [xu])), (by omega), ?_⟩
    intro v40o p40hv
    refine And.intro (by omega) ⟨fun h43 => ?_, fun h43 => ?_⟩
    · refine ⟨((61 - (0 : Nat)), 0, 0), [some (zvr (k)), some (zvi (l)), some (zvi ((0 : Nat)))], ⟨rfl, rfl, rfl, rfl⟩, 0, rfl, rfl, rfl, rfl, rfl, rfl, (by omega), ?_, (fun c j h0 h1 => ((p35bbfr c j h0 h1).trans ((p28bbfr c j h0 h1).trans ((p21bbfr c j h0 h1).trans ((p14bbfr c j h0 h1).trans ((p9bbfr c j h0 h1).trans (zxcj h0 rfl)))))))⟩
      · first
        | (refine zUd_c p50hP2 ?_
           show _ = dHd w l ++ []
           rw [List.append_nil]
           unfold dHd
           rw [if_neg (by omega)]
           rfl)
        | (refine zUd_c p35hP2 ?_
           show _ = dHd w l ++ []
           rw [List.append_nil]
           unfold dHd
           rw [if_pos (by omega), List.append_nil]
           rfl)
    · refine And.intro (zDX hD 0 rfl) ⟨_, sn_U_wrd.up (by decide), ?_⟩
      refine ⟨_, ((((([] ++ dWd 21) ++ dNu l) ++ dWd 22) ++ dNu (l + 1)) ++ dWd 23), 24, _, rfl, hS, hR, hD, (by first | exact hk | (clear hQ; grind [xu])), p35hP2, (by omega), (by have z : ([] : List Int).length = 0 := rfl; omega), ?_⟩
      intro I50o p50hP2 p50bhl2 p50bbfr
      refine ⟨((61 - (0 : Nat)), 0, 0), [some (zvr (k)), some (zvi (l)), some (zvi ((0 : Nat)))], ⟨rfl, rfl, rfl, rfl⟩, 0, rfl, rfl, rfl, rfl, rfl, rfl, (by omega), ?_, (fun c j h0 h1 => ((p50bbfr c j h0 h1).trans ((p35bbfr c j h0 h1).trans ((p28bbfr c j h0 h1).trans ((p21bbfr c j h0 h1).trans ((p14bbfr c j h0 h1).trans ((p9bbfr c j h0 h1).trans (zxcj h0 rfl))))))))⟩
      · first
        | (refine zUd_c p50hP2 ?_
           show _ = dHd w l ++ []
           rw [List.append_nil]
           unfold dHd
           rw [if_neg (by omega)]
           rfl)
        | (refine zUd_c p35hP2 ?_
           show _ = dHd w l ++ []
           rw [List.append_nil]
           unfold dHd
           rw [if_pos (by omega), List.append_nil]
           rfl)
  · rintro nM lsM stM I1 L1 R1 S1 hz1 ⟨n, rfl, rfl, rfl, rfl, rfl, rfl, hn, hP1, fr⟩
    have hcl := cuC_l (f := dHl w l) (m := 13) (n := n) (fun i _ => dHl_l)
    have hhd := dHd_l (w := w) (l := l)
    have hcnl : (dHd w l ++ cuC (dHl w l) n).length = (dHd w l).length + (cuC (dHl w l) n).length := List.length_append
    refine And.intro (zDX hD 0 rfl) (zrd (v := (cuHc w)) ((fr k 13 (by omega) (by omega)).trans hHc) ?_)
    refine And.intro ⟨(by omega), (by omega)⟩ ⟨fun h60 => ?_, fun h60 => ?_⟩
    · refine And.intro (zDX hD 0 rfl) ⟨_, sn_U_wrd.up (by decide), ?_⟩
      refine ⟨_, (dHd w l ++ cuC (dHl w l) n), 28, _, rfl, hS, hR, hD, (by first | exact hk | (clear hQ; grind [xu])), hP1, (by omega), (by omega), ?_⟩
      intro I121o p121hP2 p121bhl2 p121bbfr
      refine hQ _ (zUd_c p121hP2 (by have e : n = cuHc w := (by omega); subst e; rfl)) (fun c j h0 h1 => ((p121bbfr c j h0 h1).trans ((fr c j h0 h1).trans rfl)))
    · have t60 : n + 1 ≤ cuHc w := (by omega)
      refine And.intro (zDX hD 0 rfl) ⟨_, sn_U_iho.up (by decide), ?_⟩
      refine ⟨_, w, (n : Int), n, (l : Int), rfl, hS, hR, hD, (by first | exact hk | (clear hQ; grind [xu])), (by omega), (by first | exact hG | (clear hQ; grind [xu])), (by first | exact (zUh_fr hUh (fun c j h => ((fr c j (by omega) (by omega)).trans rfl))) | (clear hQ; grind [xu])), (by first | exact (zUo_fr hUo (fun c j h => ((fr c j (by omega) (by omega)).trans rfl))) | (clear hQ; grind [xu])), (by omega), (by omega), ?_⟩
      intro v66o p66hv
      refine And.intro (by omega) ⟨fun h69 => ?_, fun h69 => ?_⟩
      · have t69 : ¬ dIs w l n := (by rcases p66hv with z | z; omega; exact z.2)
        refine ⟨((61 - (n + 1)), 0, 0), zlt6 (by omega), [some (zvr (k)), some (zvi (l)), some (zvi ((n + 1)))], ⟨rfl, rfl, rfl, rfl⟩, (n + 1), rfl, rfl, rfl, rfl, rfl, rfl, (by omega), ?_, (fun c j h0 h1 => ((fr c j h0 h1).trans rfl))⟩
        · first
          | (refine zUd_c p108hP2 ?_
             show _ = dHd w l ++ (cuC (dHl w l) n ++ dHl w l n)
             rw [dHl_y t69]
             simp only [List.append_assoc])
          | (refine zUd_c hP1 ?_
             show _ = dHd w l ++ (cuC (dHl w l) n ++ dHl w l n)
             rw [dHl_n t69, List.append_nil])
      · have t69 : dIs w l n := (by rcases p66hv with z | z; exact z.2; omega)
        refine And.intro (zDX hD 0 rfl) ⟨_, sn_U_wrd.up (by decide), ?_⟩
        refine ⟨_, (dHd w l ++ cuC (dHl w l) n), 25, _, rfl, hS, hR, hD, (by first | exact hk | (clear hQ; grind [xu])), hP1, (by omega), (by omega), ?_⟩
        intro I76o p76hP2 p76bhl2 p76bbfr
        refine And.intro (zDX hD 0 rfl) ⟨_, sn_U_hx.up (by decide), ?_⟩
        refine ⟨_, w, (n : Int), n, rfl, hS, hR, hD, (by first | exact hk | (clear hQ; grind [xu])), (by omega), (by first | exact hG | (clear hQ; grind [xu])), (by first | exact (zUh_fr hUh (fun c j h => ((p76bbfr c j (by omega) (by omega)).trans ((fr c j (by omega) (by omega)).trans rfl)))) | (clear hQ; grind [xu])), (by first | exact (zUo_fr hUo (fun c j h => ((p76bbfr c j (by omega) (by omega)).trans ((fr c j (by omega) (by omega)).trans rfl)))) | (clear hQ; grind [xu])), (by omega), ?_⟩
        intro v82o p82hv p82bhv2
        refine And.intro (zDX hD 0 rfl) ⟨_, sn_U_nbr.up (by decide), ?_⟩
        refine ⟨_, ((dHd w l ++ cuC (dHl w l) n) ++ dWd 25), (v82o : Int), rfl, hS, hR, hD, (by first | exact hk | (clear hQ; grind [xu])), p76hP2, (by omega), (by omega), ?_⟩
        intro I85o p85hP2 p85bhl2 p85bbfr
        refine And.intro (zDX hD 0 rfl) ⟨_, sn_U_wrd.up (by decide), ?_⟩
        refine ⟨_, (((dHd w l ++ cuC (dHl w l) n) ++ dWd 25) ++ dNu (dHx w n)), 26, _, rfl, hS, hR, hD, (by first | exact hk | (clear hQ; grind [xu])), (by rw [← p82hv]; exact p85hP2), (by omega), (by rw [p82hv] at p85bhl2; omega), ?_⟩
        intro I92o p92hP2 p92bhl2 p92bbfr
        refine And.intro (zDX hD 0 rfl) ⟨_, sn_U_hy.up (by decide), ?_⟩
        refine ⟨_, w, (n : Int), n, rfl, hS, hR, hD, (by first | exact hk | (clear hQ; grind [xu])), (by omega), (by first | exact hG | (clear hQ; grind [xu])), (by first | exact (zUh_fr hUh (fun c j h => ((p92bbfr c j (by omega) (by omega)).trans ((p85bbfr c j (by omega) (by omega)).trans ((p76bbfr c j (by omega) (by omega)).trans ((fr c j (by omega) (by omega)).trans rfl)))))) | (clear hQ; grind [xu])), (by first | exact (zUo_fr hUo (fun c j h => ((p92bbfr c j (by omega) (by omega)).trans ((p85bbfr c j (by omega) (by omega)).trans ((p76bbfr c j (by omega) (by omega)).trans ((fr c j (by omega) (by omega)).trans rfl)))))) | (clear hQ; grind [xu])), (by omega), ?_⟩
        intro v98o p98hv p98bhv2
        refine And.intro (zDX hD 0 rfl) ⟨_, sn_U_nbr.up (by decide), ?_⟩
        refine ⟨_, ((((dHd w l ++ cuC (dHl w l) n) ++ dWd 25) ++ dNu (dHx w n)) ++ dWd 26), (v98o : Int), rfl, hS, hR, hD, (by first | exact hk | (clear hQ; grind [xu])), p92hP2, (by omega), (by rw [p82hv] at p85bhl2; omega), ?_⟩
        intro I101o p101hP2 p101bhl2 p101bbfr
        refine And.intro (zDX hD 0 rfl) ⟨_, sn_U_wrd.up (by decide), ?_⟩
        refine ⟨_, (((((dHd w l ++ cuC (dHl w l) n) ++ dWd 25) ++ dNu (dHx w n)) ++ dWd 26) ++ dNu (dHy w n)), 27, _, rfl, hS, hR, hD, (by first | exact hk | (clear hQ; grind [xu])), (by rw [← p98hv]; exact p101hP2), (by omega), (by rw [p82hv] at p85bhl2; rw [p98hv] at p101bhl2; omega), ?_⟩
        intro I108o p108hP2 p108bhl2 p108bbfr
        refine ⟨((61 - (n + 1)), 0, 0), zlt6 (by omega), [some (zvr (k)), some (zvi (l)), some (zvi ((n + 1)))], ⟨rfl, rfl, rfl, rfl⟩, (n + 1), rfl, rfl, rfl, rfl, rfl, rfl, (by omega), ?_, (fun c j h0 h1 => ((p108bbfr c j h0 h1).trans ((p101bbfr c j h0 h1).trans ((p92bbfr c j h0 h1).trans ((p85bbfr c j h0 h1).trans ((p76bbfr c j h0 h1).trans ((fr c j h0 h1).trans rfl)))))))⟩
        · first
          | (refine zUd_c p108hP2 ?_
             show _ = dHd w l ++ (cuC (dHl w l) n ++ dHl w l n)
             rw [dHl_y t69]
             simp only [List.append_assoc])
          | (refine zUd_c hP1 ?_
             show _ = dHd w l ++ (cuC (dHl w l) n ++ dHl w l n)
             rw [dHl_n t69, List.append_nil]))
def T_U_dlt : ZT := fun args I L R S Q => ∃ (k : Nat) (w : List CuR) (l : Int) (i : Int), args = [zvr k, zvi l, zvi i] ∧ (zSh S) ∧ (zRs R) ∧ (zDy zT1 zF1 k R S) ∧ (k = 106 ∨ k = 118) ∧ (w.length ≤ 60) ∧ (cuG w) ∧ (zUh k w I) ∧ (zUo k w I) ∧ (r32 l ∧ r32 i) ∧ (cuHc w ≤ 20) ∧ ∀ (v : Int) (I' : ZI), (v = if (0 ≤ l ∧ l ≤ 6) ∧ 0 ≤ i ∧ i < (dTx w l).length then wAt (dTx w l) i.toNat else -1) → (∀ c j : Nat, ¬ (c = k ∧ j = 17) → ¬ c = k + 11 → I' c j = I c j) → Q (some (zvi (v))) I' L R S
theorem sn_U_dlt : ZSnd 4 1 11 T_U_dlt := ZSnd.of (zT1_11 3) (by
  rintro args I L R S Q hz ⟨k, w, l, i, rfl, hS, hR, hD, hk, hl, hG, hUh, hUo, hr, h20, hQ⟩
  have hk106 : 106 ≤ k := by omega
  have hk118 : k ≤ 118 := by omega
  have hc60 := cuHc_l hl
  obtain ⟨hHc, hHv⟩ := id hUh
  refine And.intro rfl ?_
  refine And.intro (by omega) ⟨fun h1 => ?_, fun h1 => ?_⟩
  · refine hQ _ _ (by first | (rw [if_neg (by omega)]) | (rw [if_pos (by omega)]; omega)) (fun c j h0 h1 => rfl)
  · refine And.intro ⟨(by omega), (zRb rfl)⟩ ⟨fun h7 => ?_, fun h7 => ?_⟩
    · refine hQ _ _ (by first | (rw [if_neg (by omega)]) | (rw [if_pos (by omega)]; omega)) (fun c j h0 h1 => rfl)
    · refine And.intro (by omega) ⟨fun h11 => ?_, fun h11 => ?_⟩
      · refine And.intro (zDX hD 0 rfl) ⟨_, sn_U_wdr.up (by decide), ?_⟩
        refine ⟨_, w, (l : Int), rfl, hS, hR, hD, (by first | exact hk | (clear hQ; grind [xu])), (by omega), (by first | exact hG | (clear hQ; grind [xu])), (by first | exact (zUh_fr hUh (fun c j h => rfl)) | (clear hQ; grind [xu])), (by first | exact (zUo_fr hUo (fun c j h => rfl)) | (clear hQ; grind [xu])), (by omega), (by omega), ?_⟩
        intro I18o p18hP2 p18bfr
        have g18 : (dTx w l).length ≤ 800 := (by unfold dTx; rw [List.length_append, List.length_append]; have z := cuC_l (f := dHl w l) (m := 13) (n := cuHc w) (fun i _ => dHl_l); have z2 := dHd_l (w := w) (l := l); have z3 := dWd_l.2.2.2.2.2.2.2; omega)
        refine And.intro (zDX hD 0 rfl) (fun v23 e23 r23 => ?_)
        have f23 : v23 = (dTx w l).length := (e23.trans p18hP2.1)
        refine And.intro ⟨(by omega), r23⟩ ⟨fun h26 => ?_, fun h26 => ?_⟩
        · refine hQ _ _ (by first | (rw [if_neg (by omega)]) | (rw [if_pos (by omega)]; omega)) (fun c j h0 h1 => ((p18bfr c j h0 h1).trans rfl))
        · refine And.intro (zDX hD 0 rfl) (zrdR (v := some (k + 11)) (zDR hD 8 rfl) ?_)
          refine And.intro (zDP hD 11 rfl rfl (by omega) (by omega)) (fun v34 e34 r34 => ?_)
          have f34 : v34 = wAt (dTx w l) i.toNat := (e34.trans (p18hP2.2 i.toNat (by omega)))
          refine hQ _ _ (by first | (rw [if_neg (by omega)]) | (rw [if_pos (by omega)]; omega)) (fun c j h0 h1 => ((p18bfr c j h0 h1).trans rfl))
      · refine hQ _ _ (by first | (rw [if_neg (by omega)]) | (rw [if_pos (by omega)]; omega)) (fun c j h0 h1 => rfl))
