/-! wi -/
def T_V_own9 : ZT := fun args I L R S Q => ∃ (k : Nat) (w : List Int) (O : OoS) (j : Int) (j_ : Nat), args = [zvr k, zvi j] ∧ (zDy zT20 zF20 k R S) ∧ (zPO k w I) ∧ (zOM k O I L) ∧ (oGd O) ∧ (oNg O) ∧ (zOU k O I) ∧ (j = j_ ∧ j_ < ocn O) ∧ (okd O j_ = 9) ∧ (w.length + otl O j_ 0 ≤ 110000) ∧ ∀ (I' : ZI), (zPO k (w ++ wRw (otc O j_ 0) (otl O j_ 0)) I') → (∀ c j : Nat, ¬ (c = k ∧ j = 26) → ¬ c = k + 12 → I' c j = I c j) → Q none I' L R S
theorem sn_V_own9 : ZSnd 4 20 45 T_V_own9 := ZSnd.loops (zT20_45 3) (by
  rintro args I L R S Q hz ⟨k, w, O, j, j_, rfl, hD, hP, hO, hG, hN, hU, hj, h9, hl, hQ⟩
  have hk40 := hD.1
  obtain ⟨o1, o2, o3, o4⟩ := id hO
  obtain ⟨g1, g2, g3, g4, g5⟩ := id hG
  obtain ⟨u1, u2, u3, u4⟩ := hU j_ (by omega) h9
  have l6 := fun i h => g5 j_ 0 i (by omega) (by omega) h
  have hkd := (o2 j_ (by omega)).1
  refine ⟨[13], fun nM tM lsM stM I1 L1 R1 S1 => match tM with
      | 13 => ∃ (i : Nat), nM = ((5000 - i), 0, 0) ∧ lsM = [some (zvr (k)), some (zvi (j_)), some (zvi (i)), none, none, none, none, none] ∧ stM = [] ∧ L1 = L ∧ R1 = R ∧ S1 = S ∧ (i ≤ otl O j_ 0) ∧ (zPO k (w ++ wRw (otc O j_ 0) i) I1) ∧ (∀ c j : Nat, ¬ (c = k ∧ j = 26) → ¬ c = k + 12 → I1 c j = I c j)
      | _ => False, rfl, ?_, ⟨?_, True.intro⟩⟩
  · refine And.intro (zDX hD 0 rfl) (zrdR (v := some (k + 2)) (zDR hD 1 rfl) ?_)
    refine And.intro (zDP hD 2 rfl rfl (by omega) (by omega)) (fun v5 e5 r5 => ?_)
    have f5 : v5 = 9 := (e5.trans ((congrArg (I (k + 2)) (by omega)).trans (hkd.trans h9)))
    refine And.intro ⟨r5, (zRb rfl)⟩ ⟨(fun h8 => False.elim (by omega)), fun h8 => ?_⟩
    refine ⟨((5000 - (0 : Nat)), 0, 0), [some (zvr (k)), some (zvi (j_)), some (zvi ((0 : Nat))), none, none, none, none, none], ⟨rfl, (congrArg (fun z => some (zvi z)) (by omega)), rfl, rfl⟩, 0, rfl, rfl, rfl, rfl, rfl, rfl, (by omega), (by show zPO k (w ++ []) I; rw [List.append_nil]; exact hP), (fun c j h0 h1 => rfl)⟩
  · rintro nM lsM stM I1 L1 R1 S1 hz1 ⟨i, rfl, rfl, rfl, rfl, rfl, rfl, hi, hP1, fr⟩
    have li := l6 i
    have u4i := u4 i
    refine And.intro (zDX hD 0 rfl) (zrdR (v := some (k + 8)) (zDR hD 7 rfl) ?_)
    refine And.intro (zDP hD 8 rfl rfl (by omega) (by omega)) (fun v19 e19 r19 => ?_)
    have f19 : v19 = otl O j_ 0 := (e19.trans ((congrArg (I1 (k + 8)) (by omega)).trans ((fr (k + 8) j_ (by omega) (by omega)).trans u1)))
    refine And.intro ⟨(by omega), r19⟩ ⟨fun h20 => ?_, fun h20 => ?_⟩
    · refine hQ _ (by have e : i = otl O j_ 0 := (by omega); rw [← e]; exact hP1) (fun c j h0 h1 => ((fr c j h0 h1).trans rfl))
    · refine And.intro (zDX hD 0 rfl) (zrdR (v := some (k + 9)) (zDR hD 8 rfl) ?_)
      refine And.intro (zDX hD 0 rfl) (zrdR (v := some (k + 7)) (zDR hD 6 rfl) ?_)
      refine And.intro (zDP hD 7 rfl rfl (by omega) (by omega)) (fun v33 e33 r33 => ?_)
      have f33 : v33 = I (k + 7) j_ := (e33.trans ((congrArg (I1 (k + 7)) (by omega)).trans (fr (k + 7) j_ (by omega) (by omega))))
      refine And.intro (zDP hD 9 rfl rfl (by omega) (by omega)) (fun v36 e36 r36 => ?_)
      have f36 : v36 = otc O j_ 0 i := (e36.trans ((congrArg (I1 (k + 9)) (show _ = (I (k + 7) j_).toNat + i by omega)).trans ((fr (k + 9) _ (by omega) (by omega)).trans (u4i (by omega)))))
      refine And.intro (zDX hD 0 rfl) ⟨_, sn_V_say.up (by decide), ?_⟩
      refine ⟨k, (w ++ wRw (otc O j_ 0) i), (v36 : Int), rfl, hD, hP1, (by rw [List.length_append]; have z := wRw_l (g := otc O j_ 0) (m := i); omega), (by omega), ?_⟩
      intro I37o p37hP2 p37bfr
      refine ⟨((5000 - (i + 1)), 0, 0), zlt6 (by omega), [some (zvr (k)), some (zvi (j_)), some (zvi ((i + 1))), none, none, none, none, none], ⟨rfl, rfl, rfl, rfl⟩, (i + 1), rfl, rfl, rfl, rfl, rfl, rfl, (by omega), (by show zPO k (w ++ (wRw (otc O j_ 0) i ++ [otc O j_ 0 i])) _; rw [← List.append_assoc, ← f36]; exact p37hP2), (fun c j h0 h1 => ((p37bfr c j h0 h1).trans ((fr c j h0 h1).trans rfl)))⟩)
