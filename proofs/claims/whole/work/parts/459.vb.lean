/-! vb -/
def T_M_same : ZT := fun args I L R S Q => ∃ (k : Nat) (O : OoS) (j : Int) (j_ : Nat) (w : Int) (w_ : Nat) (b : Int) (b_ : Nat) (u : Int) (u_ : Nat), args = [zvr k, zvi j, zvi w, zvi b, zvi u] ∧ (zSh S) ∧ (zRs R) ∧ (zDy zT20 zF20 k R S) ∧ (168 ≤ k ∧ k ≤ 181) ∧ (zOM k O I L) ∧ (oGd O) ∧ (j = j_ ∧ j_ < ocn O) ∧ (w = w_ ∧ w_ < 2 ∧ w_ < oCt (okd O j_).toNat 1) ∧ (okd O j_ ≠ 9) ∧ (b = b_ ∧ b_ < ocn O) ∧ (u = u_ ∧ u_ < 2 ∧ u_ < oCt (okd O b_).toNat 1) ∧ (okd O b_ ≠ 9) ∧ ∀ (v : Int) (I' : ZI), ((v = 1 ∧ oSm O j_ w_ b_ u_) ∨ (v = 0 ∧ ¬ oSm O j_ w_ b_ u_)) → (0 ≤ v ∧ v ≤ 1) → (∀ c j : Nat, ¬ (c = k ∧ j = 0) → I' c j = I c j) → Q (some (zvi (v))) I' L R S
theorem sn_M_same : ZSnd 5 21 61 T_M_same := ZSnd.loops (zT21_61 4) (by
  rintro args I L R S Q hz ⟨k, O, j, j_, w, w_, b, b_, u, u_, rfl, hS, hR, hD, hk, hO, hG, hj, hw, hj9, hb, hu, hb9, hQ⟩
  obtain ⟨o1, o2, o3, o4⟩ := id hO
  obtain ⟨g1, g2, g3, g4, g5⟩ := id hG
  have hk40 := hD.1
  have hk1 := hk.1
  have hk2 := hk.2
  have l5 := (g4 j_ w_ (by omega) (by omega)).2 hj9
  have l6 := (g4 b_ u_ (by omega) (by omega)).2 hb9
  refine ⟨[25], fun nM tM lsM stM I1 L1 R1 S1 => match tM with
      | 25 => ∃ (i : Nat), nM = ((41 - i), 0, 0) ∧ lsM = [some (zvr (k)), some (zvi (j_)), some (zvi (w_)), some (zvi (b_)), some (zvi (u_)), some (zvi (otl O j_ w_)), some (zvi (i))] ∧ stM = [] ∧ L1 = L ∧ R1 = R ∧ S1 = S ∧ (i ≤ otl O j_ w_) ∧ (otl O j_ w_ = otl O b_ u_) ∧ (∀ x, x < i → otc O j_ w_ x = otc O b_ u_ x) ∧ (∀ c j : Nat, ¬ (c = k ∧ j = 0) → I1 c j = I c j)
      | _ => False, rfl, ?_, ⟨?_, True.intro⟩⟩
  · refine Exists.intro _ (And.intro (zinl_ok (zT21_35 3)) (And.intro rfl ?_))
    refine And.intro (zDX hD 0 rfl) ⟨_, sn_V_tl.up (by decide), ?_⟩
    refine ⟨k, O, (j : Int), j_, (w : Int), w_, ((-1) : Int), rfl, hS, hR, hD, (by first | exact (zOM_fr hO (fun c j h => rfl) (fun c j h => rfl)) | (clear hQ; grind [xu])), (by first | exact hG | (clear hQ; grind [xu])), (by omega), (by first | exact hw | (clear hQ; grind [xu])), (by first | exact hj9 | exact hb9), (by omega), ?_⟩
    intro v4_3o I4_3o p4_3hv p4_3bhv2 p4_3bbht p4_3bbbfr
    refine Exists.intro _ (And.intro (zinl_ok (zT21_35 3)) (And.intro rfl ?_))
    refine And.intro (zDX hD 0 rfl) ⟨_, sn_V_tl.up (by decide), ?_⟩
    refine ⟨k, O, (b : Int), b_, (u : Int), u_, ((-1) : Int), rfl, hS, hR, hD, (by first | exact (zOM_fr hO (fun c j h => ((p4_3bbbfr c j (by omega)).trans rfl)) (fun c j h => rfl)) | (clear hQ; grind [xu])), (by first | exact hG | (clear hQ; grind [xu])), (by omega), (by first | exact hw | (clear hQ; grind [xu])), (by first | exact hj9 | exact hb9), (by omega), ?_⟩
    intro v4_14o I4_14o p4_14hv p4_14bhv2 p4_14bbht p4_14bbbfr
    refine And.intro ⟨(by omega), (by omega)⟩ ⟨fun h17 => ?_, fun h17 => ?_⟩
    · refine ⟨((41 - (0 : Nat)), 0, 0), [some (zvr (k)), some (zvi (j_)), some (zvi (w_)), some (zvi (b_)), some (zvi (u_)), some (zvi (otl O j_ w_)), some (zvi ((0 : Nat)))], ⟨rfl, (congrArg (fun z => some (zvi z)) (by omega)), (congrArg (fun z => some (zvi z)) (by omega)), (congrArg (fun z => some (zvi z)) (by omega)), (congrArg (fun z => some (zvi z)) (by omega)), (congrArg (fun z => some (zvi z)) (by omega)), rfl, rfl⟩, 0, rfl, rfl, rfl, rfl, rfl, rfl, (by omega), (by omega), (fun x h => absurd h (Nat.not_lt_zero x)), (fun c j h0 => ((p4_14bbbfr c j (by omega)).trans ((p4_3bbbfr c j (by omega)).trans rfl)))⟩
    · refine And.intro (Or.inl rfl) ?_
      refine hQ _ _ ?_ (by omega) (fun c j h0 => ((p4_14bbbfr c j (by omega)).trans ((p4_3bbbfr c j (by omega)).trans rfl)))
      · first
        | exact Or.inr ⟨rfl, fun q => by have q1 := q.1; omega⟩
        | exact Or.inr ⟨rfl, fun q => by have q1 := q.2 i (by omega); omega⟩
        | exact Or.inl ⟨rfl, hle, fun x hx => hs x (by omega)⟩
  · rintro nM lsM stM I1 L1 R1 S1 hz1 ⟨i, rfl, rfl, rfl, rfl, rfl, rfl, hi, hle, hs, fr⟩
    refine And.intro ⟨(by omega), (by omega)⟩ ⟨fun h29 => ?_, fun h29 => ?_⟩
    · refine And.intro (Or.inr rfl) ?_
      refine hQ _ _ ?_ (by omega) (fun c j h0 => ((fr c j (by omega)).trans rfl))
      · first
        | exact Or.inr ⟨rfl, fun q => by have q1 := q.1; omega⟩
        | exact Or.inr ⟨rfl, fun q => by have q1 := q.2 i (by omega); omega⟩
        | exact Or.inl ⟨rfl, hle, fun x hx => hs x (by omega)⟩
    · refine And.intro (zDX hD 0 rfl) ⟨_, sn_V_tt.up (by decide), ?_⟩
      refine ⟨k, O, (j_ : Int), j_, (w_ : Int), w_, (i : Int), i, rfl, hS, hR, hD, (by first | exact (zOM_fr hO (fun c j h => ((fr c j (by omega)).trans rfl)) (fun c j h => rfl)) | (clear hQ; grind [xu])), (by first | exact hG | (clear hQ; grind [xu])), (by omega), (by first | exact hw | (clear hQ; grind [xu])), (by omega), (by omega), ?_⟩
      intro v37o I37o p37hv p37bhv2 p37bbht p37bbbfr
      refine And.intro (zDX hD 0 rfl) ⟨_, sn_V_tt.up (by decide), ?_⟩
      refine ⟨k, O, (b_ : Int), b_, (u_ : Int), u_, (i : Int), i, rfl, hS, hR, hD, (by first | exact (zOM_fr hO (fun c j h => ((p37bbbfr c j (by omega)).trans ((fr c j (by omega)).trans rfl))) (fun c j h => rfl)) | (clear hQ; grind [xu])), (by first | exact hG | (clear hQ; grind [xu])), (by omega), (by first | exact hw | (clear hQ; grind [xu])), (by omega), (by omega), ?_⟩
      intro v46o I46o p46hv p46bhv2 p46bbht p46bbbfr
      refine And.intro ⟨(by omega), (by omega)⟩ ⟨fun h49 => ?_, fun h49 => ?_⟩
      · refine ⟨((41 - (i + 1)), 0, 0), zlt6 (by omega), [some (zvr (k)), some (zvi (j_)), some (zvi (w_)), some (zvi (b_)), some (zvi (u_)), some (zvi (otl O j_ w_)), some (zvi ((i + 1)))], ⟨rfl, rfl, rfl, rfl, rfl, rfl, rfl, rfl⟩, (i + 1), rfl, rfl, rfl, rfl, rfl, rfl, (by omega), (by omega), ?_, (fun c j h0 => ((p46bbbfr c j (by omega)).trans ((p37bbbfr c j (by omega)).trans ((fr c j (by omega)).trans rfl))))⟩
        · intro x hx
          by_cases e : x = i
          · rw [e]; omega
          · exact hs x (by omega)
      · refine And.intro (Or.inl rfl) ?_
        refine hQ _ _ ?_ (by omega) (fun c j h0 => ((p46bbbfr c j (by omega)).trans ((p37bbbfr c j (by omega)).trans ((fr c j (by omega)).trans rfl))))
        · first
          | exact Or.inr ⟨rfl, fun q => by have q1 := q.1; omega⟩
          | exact Or.inr ⟨rfl, fun q => by have q1 := q.2 i (by omega); omega⟩
          | exact Or.inl ⟨rfl, hle, fun x hx => hs x (by omega)⟩)
def T_M_fld : ZT := fun args I L R S Q => ∃ (k : Nat) (O : OoS) (n : Int) (n_ : Nat), args = [zvr k, zvi n] ∧ (zSh S) ∧ (zRs R) ∧ (zDy zT20 zF20 k R S) ∧ (168 ≤ k ∧ k ≤ 181) ∧ (zOM k O I L) ∧ (oGd O) ∧ (n = n_ ∧ n_ < ocn O) ∧ ∀ (v : Int) (I' : ZI), (v = oFl O n_) → (-1 ≤ v ∧ v + 1 ≤ ocn O ∧ (0 ≤ v → okd O v.toNat = 8)) → (∀ c j : Nat, ¬ (c = k ∧ j = 0) → I' c j = I c j) → Q (some (zvi (v))) I' L R S
theorem sn_M_fld : ZSnd 5 21 23 T_M_fld := ZSnd.loops (zT21_23 4) (by
  rintro args I L R S Q hz ⟨k, O, n, n_, rfl, hS, hR, hD, hk, hO, hG, hn, hQ⟩
  obtain ⟨o1, o2, o3, o4⟩ := id hO
  obtain ⟨g1, g2, g3, g4, g5⟩ := id hG
  have hk40 := hD.1
  have hk1 := hk.1
  have hk2 := hk.2
  refine ⟨[2], fun nM tM lsM stM I1 L1 R1 S1 => match tM with
      | 2 => ∃ (i : Nat), nM = ((201 - i), 0, 0) ∧ lsM = [some (zvr (k)), some (zvi (n_)), some (zvi (i)), none] ∧ stM = [] ∧ L1 = L ∧ R1 = R ∧ S1 = S ∧ (i ≤ ocn O) ∧ (∀ x, x < i → ¬ oFp O n_ x) ∧ (∀ c j : Nat, ¬ (c = k ∧ j = 0) → I1 c j = I c j)
      | _ => False, rfl, ?_, ⟨?_, True.intro⟩⟩
  · refine ⟨((201 - (0 : Nat)), 0, 0), [some (zvr (k)), some (zvi (n_)), some (zvi ((0 : Nat))), none], ⟨rfl, (congrArg (fun z => some (zvi z)) (by omega)), rfl, rfl⟩, 0, rfl, rfl, rfl, rfl, rfl, rfl, (by omega), (fun x h => absurd h (Nat.not_lt_zero x)), (fun c j h0 => rfl)⟩
  · rintro nM lsM stM I1 L1 R1 S1 hz1 ⟨i, rfl, rfl, rfl, rfl, rfl, rfl, hi, hno, fr⟩
    refine And.intro (zDX hD 0 rfl) (zrd (v := (ocn O)) ((fr k 4 (by omega)).trans o1) ?_)
    refine And.intro ⟨(by omega), (by omega)⟩ ⟨fun h7 => ?_, fun h7 => ?_⟩
    · refine hQ _ _ ?_ (by first | exact ⟨by omega, by omega, fun _ => by show okd O i = 8; omega⟩ | exact ⟨by omega, by omega, fun h => by omega⟩) (fun c j h0 => ((fr c j (by omega)).trans rfl))
      · first
        | exact (zlow_at (P := oFp O n_) ⟨by omega, by omega, by omega, by omega, by omega⟩ hno (by omega)).symm
        | exact (zlow_no (P := oFp O n_) (fun b hb => hno b (by omega))).symm
    · refine And.intro (zDX hD 0 rfl) ⟨_, sn_V_kind.up (by decide), ?_⟩
      refine ⟨k, O, (i : Int), i, rfl, hS, hR, hD, (by first | exact (zOM_fr hO (fun c j h => ((fr c j (by omega)).trans rfl)) (fun c j h => rfl)) | (clear hQ; grind [xu])), (by first | exact hG | (clear hQ; grind [xu])), (by omega), ?_⟩
      intro v12o I12o p12hv p12bhv2 p12bbht p12bbbfr
      refine And.intro ⟨(by omega), (zRb rfl)⟩ ⟨fun h17 => ?_, fun h17 => ?_⟩
      · refine And.intro (zRb rfl) (zbt rfl ?_)
        refine ⟨((201 - (i + 1)), 0, 0), zlt6 (by omega), [some (zvr (k)), some (zvi (n_)), some (zvi ((i + 1))), none], ⟨rfl, rfl, rfl, rfl⟩, (i + 1), rfl, rfl, rfl, rfl, rfl, rfl, (by omega), ?_, (fun c j h0 => ((p12bbbfr c j (by omega)).trans ((fr c j (by omega)).trans rfl)))⟩
        · intro x hx
          by_cases e : x = i
          · rw [e]
            intro w
            have w1 := w.1
            have w2 := w.2.1
            have w3 := w.2.2.1
            have w4 := w.2.2.2.1
            have w5 := w.2.2.2.2
            omega
          · exact hno x (by omega)
      · refine And.intro (zDX hD 0 rfl) ⟨_, sn_V_par.up (by decide), ?_⟩
        refine ⟨k, O, (i : Int), i, rfl, hS, hR, hD, (by first | exact (zOM_fr hO (fun c j h => ((p12bbbfr c j (by omega)).trans ((fr c j (by omega)).trans rfl))) (fun c j h => rfl)) | (clear hQ; grind [xu])), (by first | exact hG | (clear hQ; grind [xu])), (by omega), ?_⟩
        intro v22o I22o p22hv p22bhv2 p22bbht p22bbbfr
        refine And.intro ⟨(by omega), (by omega)⟩ ⟨fun h26 => ?_, fun h26 => ?_⟩
        · refine And.intro (zRb rfl) (zbt rfl ?_)
          refine ⟨((201 - (i + 1)), 0, 0), zlt6 (by omega), [some (zvr (k)), some (zvi (n_)), some (zvi ((i + 1))), none], ⟨rfl, rfl, rfl, rfl⟩, (i + 1), rfl, rfl, rfl, rfl, rfl, rfl, (by omega), ?_, (fun c j h0 => ((p22bbbfr c j (by omega)).trans ((p12bbbfr c j (by omega)).trans ((fr c j (by omega)).trans rfl))))⟩
          · intro x hx
            by_cases e : x = i
            · rw [e]
              intro w
              have w1 := w.1
              have w2 := w.2.1
              have w3 := w.2.2.1
              have w4 := w.2.2.2.1
              have w5 := w.2.2.2.2
              omega
            · exact hno x (by omega)
        · refine Exists.intro _ (And.intro (zinl_ok (zT21_35 3)) (And.intro rfl ?_))
          refine And.intro (zDX hD 0 rfl) ⟨_, sn_V_tl.up (by decide), ?_⟩
          refine ⟨k, O, (i : Int), i, (0 : Int), 0, ((-1) : Int), rfl, hS, hR, hD, (by first | exact (zOM_fr hO (fun c j h => ((p22bbbfr c j (by omega)).trans ((p12bbbfr c j (by omega)).trans ((fr c j (by omega)).trans rfl)))) (fun c j h => rfl)) | (clear hQ; grind [xu])), (by first | exact hG | (clear hQ; grind [xu])), (by omega), ⟨by omega, by decide, (by have e : okd O i = 8 := (by omega); rw [e]; decide)⟩, (by omega), (by omega), ?_⟩
          intro v4_32o I4_32o p4_32hv p4_32bhv2 p4_32bbht p4_32bbbfr
          refine And.intro ⟨(by omega), (zRb rfl)⟩ ⟨fun h36 => ?_, fun h36 => ?_⟩
          · refine And.intro (zRb rfl) (zbt rfl ?_)
            refine ⟨((201 - (i + 1)), 0, 0), zlt6 (by omega), [some (zvr (k)), some (zvi (n_)), some (zvi ((i + 1))), none], ⟨rfl, rfl, rfl, rfl⟩, (i + 1), rfl, rfl, rfl, rfl, rfl, rfl, (by omega), ?_, (fun c j h0 => ((p4_32bbbfr c j (by omega)).trans ((p22bbbfr c j (by omega)).trans ((p12bbbfr c j (by omega)).trans ((fr c j (by omega)).trans rfl)))))⟩
            · intro x hx
              by_cases e : x = i
              · rw [e]
                intro w
                have w1 := w.1
                have w2 := w.2.1
                have w3 := w.2.2.1
                have w4 := w.2.2.2.1
                have w5 := w.2.2.2.2
                omega
              · exact hno x (by omega)
          · refine And.intro (zRb rfl) (zbf rfl ?_)
            refine And.intro (zDX hD 0 rfl) ⟨_, sn_V_tt.up (by decide), ?_⟩
            refine ⟨k, O, (i : Int), i, (0 : Int), 0, (0 : Int), 0, rfl, hS, hR, hD, (by first | exact (zOM_fr hO (fun c j h => ((p4_32bbbfr c j (by omega)).trans ((p22bbbfr c j (by omega)).trans ((p12bbbfr c j (by omega)).trans ((fr c j (by omega)).trans rfl))))) (fun c j h => rfl)) | (clear hQ; grind [xu])), (by first | exact hG | (clear hQ; grind [xu])), (by omega), ⟨by omega, by decide, (by have e : okd O i = 8 := (by omega); rw [e]; decide)⟩, (by omega), (by omega), ?_⟩
            intro v53o I53o p53hv p53bhv2 p53bbht p53bbbfr
            refine And.intro ⟨(by omega), (zRb rfl)⟩ ⟨fun h58 => ?_, fun h58 => ?_⟩
            · refine ⟨((201 - (i + 1)), 0, 0), zlt6 (by omega), [some (zvr (k)), some (zvi (n_)), some (zvi ((i + 1))), none], ⟨rfl, rfl, rfl, rfl⟩, (i + 1), rfl, rfl, rfl, rfl, rfl, rfl, (by omega), ?_, (fun c j h0 => ((p53bbbfr c j (by omega)).trans ((p4_32bbbfr c j (by omega)).trans ((p22bbbfr c j (by omega)).trans ((p12bbbfr c j (by omega)).trans ((fr c j (by omega)).trans rfl))))))⟩
              · intro x hx
                by_cases e : x = i
                · rw [e]
                  intro w
                  have w1 := w.1
                  have w2 := w.2.1
                  have w3 := w.2.2.1
                  have w4 := w.2.2.2.1
                  have w5 := w.2.2.2.2
                  omega
                · exact hno x (by omega)
            · refine And.intro (zDX hD 0 rfl) ⟨_, sn_V_tt.up (by decide), ?_⟩
              refine ⟨k, O, (i : Int), i, (0 : Int), 0, (1 : Int), 1, rfl, hS, hR, hD, (by first | exact (zOM_fr hO (fun c j h => ((p53bbbfr c j (by omega)).trans ((p4_32bbbfr c j (by omega)).trans ((p22bbbfr c j (by omega)).trans ((p12bbbfr c j (by omega)).trans ((fr c j (by omega)).trans rfl)))))) (fun c j h => rfl)) | (clear hQ; grind [xu])), (by first | exact hG | (clear hQ; grind [xu])), (by omega), ⟨by omega, by decide, (by have e : okd O i = 8 := (by omega); rw [e]; decide)⟩, (by omega), (by omega), ?_⟩
              intro v65o I65o p65hv p65bhv2 p65bbht p65bbbfr
              refine And.intro ⟨(by omega), (zRb rfl)⟩ ⟨fun h70 => ?_, fun h70 => ?_⟩
              · refine ⟨((201 - (i + 1)), 0, 0), zlt6 (by omega), [some (zvr (k)), some (zvi (n_)), some (zvi ((i + 1))), none], ⟨rfl, rfl, rfl, rfl⟩, (i + 1), rfl, rfl, rfl, rfl, rfl, rfl, (by omega), ?_, (fun c j h0 => ((p65bbbfr c j (by omega)).trans ((p53bbbfr c j (by omega)).trans ((p4_32bbbfr c j (by omega)).trans ((p22bbbfr c j (by omega)).trans ((p12bbbfr c j (by omega)).trans ((fr c j (by omega)).trans rfl)))))))⟩
                · intro x hx
                  by_cases e : x = i
                  · rw [e]
                    intro w
                    have w1 := w.1
                    have w2 := w.2.1
                    have w3 := w.2.2.1
                    have w4 := w.2.2.2.1
                    have w5 := w.2.2.2.2
                    omega
                  · exact hno x (by omega)
              · refine hQ _ _ ?_ (by first | exact ⟨by omega, by omega, fun _ => by show okd O i = 8; omega⟩ | exact ⟨by omega, by omega, fun h => by omega⟩) (fun c j h0 => ((p65bbbfr c j (by omega)).trans ((p53bbbfr c j (by omega)).trans ((p4_32bbbfr c j (by omega)).trans ((p22bbbfr c j (by omega)).trans ((p12bbbfr c j (by omega)).trans ((fr c j (by omega)).trans rfl)))))))
                · first
                  | exact (zlow_at (P := oFp O n_) ⟨by omega, by omega, by omega, by omega, by omega⟩ hno (by omega)).symm
                  | exact (zlow_no (P := oFp O n_) (fun b hb => hno b (by omega))).symm)
def T_M_rep : ZT := fun args I L R S Q => ∃ (k : Nat) (O : OoS) (n : Int) (n_ : Nat), args = [zvr 165, zvr k, zvi n] ∧ (zSh S) ∧ (zRs R) ∧ (zDy zT20 zF20 k R S) ∧ (168 ≤ k ∧ k ≤ 181) ∧ (zOM k O I L) ∧ (oGd O) ∧ (n = n_ ∧ n_ < ocn O) ∧ (zMH O n_ (oSt O n_).1 I) ∧ ∀ (v : Int) (I' : ZI), (v = oRp O (oSt O n_) n_) → (∀ c j : Nat, ¬ (c = k ∧ j = 0) → I' c j = I c j) → Q (some (zvi (v))) I' L R S
theorem sn_M_rep : ZSnd 6 21 52 T_M_rep := ZSnd.loops (zT21_52 5) (by
  rintro args I L R S Q hz ⟨k, O, n, n_, rfl, hS, hR, hD, hk, hO, hG, hn, hM, hQ⟩
  obtain ⟨o1, o2, o3, o4⟩ := id hO
  obtain ⟨g1, g2, g3, g4, g5⟩ := id hG
  have hk40 := hD.1
  have hk1 := hk.1
  have hk2 := hk.2
  obtain ⟨m1, m2, m3⟩ := id hM
  refine ⟨[9], fun nM tM lsM stM I1 L1 R1 S1 => match tM with
      | 9 => ∃ (i : Nat) (f : Int), nM = ((201 - i), 0, 0) ∧ lsM = [some (zvr (165)), some (zvr (k)), some (zvi (n_)), some (zvi (f)), some (zvi (i))] ∧ stM = [] ∧ L1 = L ∧ R1 = R ∧ S1 = S ∧ (i ≤ n_) ∧ (oFl O n_ = f) ∧ (-1 ≤ f ∧ f + 1 ≤ ocn O ∧ (0 ≤ f → okd O f.toNat = 8)) ∧ (0 ≤ f → ∀ u, u < dns (oSt O n_).1 → (oSt O n_).2 u < i → ¬ oRq O (oSt O n_) f.toNat u) ∧ (∀ c j : Nat, ¬ (c = k ∧ j = 0) → I1 c j = I c j)
      | _ => False, rfl, ?_, ⟨?_, True.intro⟩⟩
  · refine ⟨_, sn_M_fld.up (by decide), ?_⟩
    refine ⟨k, O, (n : Int), n_, rfl, hS, hR, hD, (by omega), (by first | exact (zOM_fr hO (fun c j h => rfl) (fun c j h => rfl)) | (clear hQ; grind [xu])), (by first | exact hG | (clear hQ; grind [xu])), (by omega), ?_⟩
    intro v2o I2o p2hv p2bhv2 p2bbfr
    refine ⟨((201 - (0 : Nat)), 0, 0), [some (zvr (165)), some (zvr (k)), some (zvi (n_)), some (zvi (v2o)), some (zvi ((0 : Nat)))], ⟨rfl, rfl, (congrArg (fun z => some (zvi z)) (by omega)), rfl, rfl, rfl⟩, 0, v2o, rfl, rfl, rfl, rfl, rfl, rfl, (by omega), p2hv.symm, ⟨by omega, by omega, p2bhv2.2.2⟩, (fun _ u hu hlt => by obtain ⟨j, j1, j2⟩ := oSt_i (O := O) hu; omega), (fun c j h0 => ((p2bbfr c j (by omega)).trans rfl))⟩
  · rintro nM lsM stM I1 L1 R1 S1 hz1 ⟨i, f, rfl, rfl, rfl, rfl, rfl, rfl, hi, hf, hf2, hno, fr⟩
    have hsb := fun h => oSh_b (O := O) (j := i) (k := n_) h
    have hso := fun h h2 => oSt_o (O := O) (k := n_) (j := i) h h2
    refine And.intro ⟨(by omega), (by omega)⟩ ⟨fun h12 => ?_, fun h12 => ?_⟩
    · refine hQ _ _ ?_ (fun c j h0 => ((fr c j (by omega)).trans rfl))
      · first
        | exact oRp_no hf (by by_cases e : f = -1; exact Or.inl e; exact Or.inr (fun u hu => hno (by omega) u hu (by obtain ⟨j, j1, j2, j3⟩ := oSt_i (O := O) hu; omega)))
        | (rcases p35hv with q | q
           · have k1 := oSh_k (O := O) (j := i) (by omega)
             have k2 := oSt_o (O := O) (k := n_) (j := i) (by omega) (by omega)
             have k3 : dbs (oSt O n_).1 (oSh O i).toNat = (oSh O i).toNat := by
               rw [f19_23] at f20_23
               by_cases e : dbs (oSt O n_).1 (oSh O i).toNat = (oSh O i).toNat
               · exact e
               · rw [if_neg e] at f20_23
                 omega
             have key := oRp_at (d := (oSt O n_).1) (ob := (oSt O n_).2) (t := (oSh O i).toNat) hf (by omega) (by omega) ⟨k3, by rw [k2]; exact q.2⟩ (fun u hu => hno (by omega) u (by omega) (by have w := oSt_m (O := O) (k := n_) hu (by omega); rw [k2] at w; exact w))
             exact f47.trans (Eq.trans (by omega) key)
           · exfalso; omega)
    · refine And.intro ⟨(by omega), (zRb rfl)⟩ ⟨fun h17 => ?_, fun h17 => ?_⟩
      · refine hQ _ _ ?_ (fun c j h0 => ((fr c j (by omega)).trans rfl))
        · first
          | exact oRp_no hf (by by_cases e : f = -1; exact Or.inl e; exact Or.inr (fun u hu => hno (by omega) u hu (by obtain ⟨j, j1, j2, j3⟩ := oSt_i (O := O) hu; omega)))
          | (rcases p35hv with q | q
             · have k1 := oSh_k (O := O) (j := i) (by omega)
               have k2 := oSt_o (O := O) (k := n_) (j := i) (by omega) (by omega)
               have k3 : dbs (oSt O n_).1 (oSh O i).toNat = (oSh O i).toNat := by
                 rw [f19_23] at f20_23
                 by_cases e : dbs (oSt O n_).1 (oSh O i).toNat = (oSh O i).toNat
                 · exact e
                 · rw [if_neg e] at f20_23
                   omega
               have key := oRp_at (d := (oSt O n_).1) (ob := (oSt O n_).2) (t := (oSh O i).toNat) hf (by omega) (by omega) ⟨k3, by rw [k2]; exact q.2⟩ (fun u hu => hno (by omega) u (by omega) (by have w := oSt_m (O := O) (k := n_) hu (by omega); rw [k2] at w; exact w))
               exact f47.trans (Eq.trans (by omega) key)
             · exfalso; omega)
      · refine And.intro (zA_165 hS) (Exists.intro _ (And.intro (zinl_ok (zT21_31 4)) (And.intro rfl ?_)))
        refine And.intro (zA_165 hS) (zrdR (v := some 194) (zR_165_8 hR) ?_)
        refine And.intro (zP_194 hS (by omega) (by omega)) (fun v5_23 e5_23 r5_23 => ?_)
        have f5_23 : v5_23 = oSh O i := (e5_23.trans ((congrArg (I1 194) (by omega)).trans ((fr 194 _ (by omega)).trans (m2 i (by omega)))))
        have f5_23b : -1 ≤ v5_23 ∧ v5_23 + 1 ≤ dns (oSt O n_).1 := (by have w := hsb (by omega); omega)
        have f5_23bb : dns (oSt O n_).1 ≤ 16 := (by have w := oSt_n (O := O) n_; omega)
        refine And.intro ⟨r5_23, (zRb rfl)⟩ ⟨fun h7_23 => ?_, fun h7_23 => ?_⟩
        · refine And.intro (Or.inl rfl) ?_
          refine And.intro (zRb rfl) (zbt rfl ?_)
          refine ⟨((201 - (i + 1)), 0, 0), zlt6 (by omega), [some (zvr (165)), some (zvr (k)), some (zvi (n_)), some (zvi (f)), some (zvi ((i + 1)))], ⟨rfl, rfl, rfl, rfl, rfl, rfl⟩, (i + 1), f, rfl, rfl, rfl, rfl, rfl, rfl, (by omega), (by omega), (by first | exact hf2 | (clear hQ; grind [xu])), ?_, (fun c j h0 => ((fr c j (by omega)).trans rfl))⟩
          · intro h0 u hu hlt w
            by_cases e : (oSt O n_).2 u < i
            · exact hno h0 u hu e w
            · obtain ⟨j, j1, j2, j3, j4, j5⟩ := oSt_i (O := O) hu
              have ej : j = i := (by omega)
              rw [ej] at j1 j5
              first
              | (exfalso; omega)
              | (rcases p35hv with q | q
                 · omega
                 · have w2 := w.2
                   rw [j1, show ((i : Nat) : Int).toNat = i from rfl] at w2
                   exact q.2 w2)
              | (have w1 := w.1
                 have e2 : v19_23.toNat = u := (by omega)
                 rw [e2, if_pos w1] at f20_23
                 omega)
        · refine And.intro (zA_165 hS) (zrdR (v := some 195) (zR_165_9 hR) ?_)
          refine And.intro (zA_165 hS) (zrdR (v := some 194) (zR_165_8 hR) ?_)
          refine And.intro (zP_194 hS (by omega) (by omega)) (fun v19_23 e19_23 r19_23 => ?_)
          have f19_23 : v19_23 = oSh O i := (e19_23.trans ((congrArg (I1 194) (by omega)).trans ((fr 194 _ (by omega)).trans (m2 i (by omega)))))
          have f19_23b : 0 ≤ v19_23 ∧ v19_23 + 1 ≤ dns (oSt O n_).1 := (by have w := hsb (by omega); omega)
          refine And.intro (zP_195 hS (by omega) (by omega)) (fun v20_23 e20_23 r20_23 => ?_)
          have f20_23 : v20_23 = if dbs (oSt O n_).1 v19_23.toNat = v19_23.toNat then -1 else (dbs (oSt O n_).1 v19_23.toNat : Int) := (e20_23.trans ((fr 195 _ (by omega)).trans (m3 _ (by omega)).2))
          refine And.intro ⟨r20_23, (zRb rfl)⟩ ⟨fun h22_23 => ?_, fun h22_23 => ?_⟩
          · refine And.intro (Or.inl rfl) ?_
            refine And.intro (zRb rfl) (zbt rfl ?_)
            refine ⟨((201 - (i + 1)), 0, 0), zlt6 (by omega), [some (zvr (165)), some (zvr (k)), some (zvi (n_)), some (zvi (f)), some (zvi ((i + 1)))], ⟨rfl, rfl, rfl, rfl, rfl, rfl⟩, (i + 1), f, rfl, rfl, rfl, rfl, rfl, rfl, (by omega), (by omega), (by first | exact hf2 | (clear hQ; grind [xu])), ?_, (fun c j h0 => ((fr c j (by omega)).trans rfl))⟩
            · intro h0 u hu hlt w
              by_cases e : (oSt O n_).2 u < i
              · exact hno h0 u hu e w
              · obtain ⟨j, j1, j2, j3, j4, j5⟩ := oSt_i (O := O) hu
                have ej : j = i := (by omega)
                rw [ej] at j1 j5
                first
                | (exfalso; omega)
                | (rcases p35hv with q | q
                   · omega
                   · have w2 := w.2
                     rw [j1, show ((i : Nat) : Int).toNat = i from rfl] at w2
                     exact q.2 w2)
                | (have w1 := w.1
                   have e2 : v19_23.toNat = u := (by omega)
                   rw [e2, if_pos w1] at f20_23
                   omega)
          · have t22_23 : okd O i = 1 := (oSh_k (O := O) (j := i) (by omega)).1
            refine And.intro (Or.inr rfl) ?_
            refine And.intro (zRb rfl) (zbf rfl ?_)
            refine ⟨_, sn_M_same.up (by decide), ?_⟩
            refine ⟨k, O, (f : Int), f.toNat, (1 : Int), 1, (i : Int), i, (0 : Int), 0, rfl, hS, hR, hD, (by omega), (by first | exact (zOM_fr hO (fun c j h => ((fr c j (by omega)).trans rfl)) (fun c j h => rfl)) | (clear hQ; grind [xu])), (by first | exact hG | (clear hQ; grind [xu])), (by omega), ⟨by omega, by decide, by rw [hf2.2.2 (by omega)]; decide⟩, (by have w := hf2.2.2 (by omega); omega), (by omega), ⟨by omega, by decide, by have e : okd O i = 1 := (by omega); rw [e]; decide⟩, (by omega), ?_⟩
            intro v35o I35o p35hv p35bhv2 p35bbfr
            refine And.intro (by omega) ⟨fun h38 => ?_, fun h38 => ?_⟩
            · refine ⟨((201 - (i + 1)), 0, 0), zlt6 (by omega), [some (zvr (165)), some (zvr (k)), some (zvi (n_)), some (zvi (f)), some (zvi ((i + 1)))], ⟨rfl, rfl, rfl, rfl, rfl, rfl⟩, (i + 1), f, rfl, rfl, rfl, rfl, rfl, rfl, (by omega), (by omega), (by first | exact hf2 | (clear hQ; grind [xu])), ?_, (fun c j h0 => ((p35bbfr c j (by omega)).trans ((fr c j (by omega)).trans rfl)))⟩
              · intro h0 u hu hlt w
                by_cases e : (oSt O n_).2 u < i
                · exact hno h0 u hu e w
                · obtain ⟨j, j1, j2, j3, j4, j5⟩ := oSt_i (O := O) hu
                  have ej : j = i := (by omega)
                  rw [ej] at j1 j5
                  first
                  | (exfalso; omega)
                  | (rcases p35hv with q | q
                     · omega
                     · have w2 := w.2
                       rw [j1, show ((i : Nat) : Int).toNat = i from rfl] at w2
                       exact q.2 w2)
                  | (have w1 := w.1
                     have e2 : v19_23.toNat = u := (by omega)
                     rw [e2, if_pos w1] at f20_23
                     omega)
            · refine And.intro (zA_165 hS) (zrdR (v := some 194) (zR_165_8 hR) ?_)
              refine And.intro (zP_194 hS (by omega) (by omega)) (fun v47 e47 r47 => ?_)
              have f47 : v47 = oSh O i := (e47.trans ((congrArg (I35o 194) (by omega)).trans ((p35bbfr 194 _ (by omega)).trans ((fr 194 _ (by omega)).trans (m2 i (by omega))))))
              refine hQ _ _ ?_ (fun c j h0 => ((p35bbfr c j (by omega)).trans ((fr c j (by omega)).trans rfl)))
              · first
                | exact oRp_no hf (by by_cases e : f = -1; exact Or.inl e; exact Or.inr (fun u hu => hno (by omega) u hu (by obtain ⟨j, j1, j2, j3⟩ := oSt_i (O := O) hu; omega)))
                | (rcases p35hv with q | q
                   · have k1 := oSh_k (O := O) (j := i) (by omega)
                     have k2 := oSt_o (O := O) (k := n_) (j := i) (by omega) (by omega)
                     have k3 : dbs (oSt O n_).1 (oSh O i).toNat = (oSh O i).toNat := by
                       rw [f19_23] at f20_23
                       by_cases e : dbs (oSt O n_).1 (oSh O i).toNat = (oSh O i).toNat
                       · exact e
                       · rw [if_neg e] at f20_23
                         omega
                     have key := oRp_at (d := (oSt O n_).1) (ob := (oSt O n_).2) (t := (oSh O i).toNat) hf (by omega) (by omega) ⟨k3, by rw [k2]; exact q.2⟩ (fun u hu => hno (by omega) u (by omega) (by have w := oSt_m (O := O) (k := n_) hu (by omega); rw [k2] at w; exact w))
                     exact f47.trans (Eq.trans (by omega) key)
                   · exfalso; omega))
